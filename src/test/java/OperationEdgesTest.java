/** The edges that the list under OPERATIONS names, operation by operation; above each test the words that it tests. */
public final class OperationEdgesTest {
    private static final int[] EXTREMES = {Integer.MIN_VALUE, Integer.MIN_VALUE + 1, -101, -100, -1, 0, 1, 100, Integer.MAX_VALUE - 1, Integer.MAX_VALUE};

    public static void main(String[] args) {
        eachCountsAsOne();
        thePlaceIsOneFurther();
        noInstructionAtThePlace();
        anInstructionThatComesLater();
        ints();
        sumsWrap();
        less();
        targetsAre0To47();
        sendToAnEndedOne();
        sendToAFullOne();
        sendToAFullOneThatWaits();
        sendToOneThatWaits();
        sendToOneThatIsReady();
        peekAtTheMark();
        peekWithoutMessage();
        takeSetsTheMark();
        takeWithoutMessage();
        nextGoesBeyondTheMessages();
        waitWithAMessageAtTheMark();
        waitWithoutOne();
        spawnOntoItsOwnArgument();
        spawnWithoutInstruction();
        linkItself();
        linkAnEndedOne();
        linkAgain();
        trapOnlyWith1();
        endWithAnyTerm();
        stopWhetherLinkedOrNot();
        stopAnEndedOne();
        stopItself();
        Kit.finish();
    }

    /** "each counts as one REDUCTION": those that jump, fail, do nothing, wait or end, too */
    private static void eachCountsAsOne() {
        for (int operation = 0; operation < 27; operation++) {
            TurnHost x = Kit.host(50, Kit.op(operation, 0, 0, 0));
            x.begin(0, 0);
            Kit.due("operation " + operation + ": run", x.run(1), 1);
            Kit.due("operation " + operation + ": counted", x.process(0, Kit.DONE), 1);
        }
    }

    /** "the place is one further before it is done": with register 5 nil, only these go on at 5, and the others are or end at 3 */
    private static void thePlaceIsOneFurther() {
        java.util.List<Integer> goOnAt5 = java.util.List.of(Kit.IS, Kit.JUMP, Kit.CALL, Kit.PEEK, Kit.NEXT, Kit.WAIT);
        for (int operation = 0; operation < 27; operation++) {
            TurnHost x = Kit.host(50, Kit.op(Kit.NIL, 7), Kit.op(Kit.NIL, 7), Kit.op(operation, 5, 5, 5));
            x.begin(2, 0);
            x.run(1);
            Kit.due("operation " + operation + ": the place", x.process(0, Kit.PLACE), goOnAt5.contains(operation) ? 5 : 3);
        }
    }

    /** "if there is no instruction at the place, that counts as one, too, and the process ends with FAULT" */
    private static void noInstructionAtThePlace() {
        TurnHost x = Kit.host(50, Kit.op(Kit.NIL, 1));
        int[] places = {1, 2, 46, 47};
        for (int p = 0; p < places.length; p++) {
            x.begin(places[p], 7);
            Kit.due("run, at " + places[p], x.run(15), 1);
            Kit.due("counted, at " + places[p], x.process(p, Kit.DONE), 1);
            Kit.due("ended, at " + places[p], x.process(p, Kit.STATE), Kit.ENDED);
            Kit.due("FAULT, at " + places[p], x.term(p, Kit.REASON), Kit.FAULT);
            Kit.due("the place stays " + places[p], x.process(p, Kit.PLACE), places[p]);
            Kit.due("out of the queue, at " + places[p], Kit.queue(x), "");
        }
        TurnHost y = Kit.host(50, Kit.op(Kit.SPAWN, 1, 9, 0), Kit.op(Kit.LINK, 1), Kit.op(Kit.WAIT, 2));
        y.begin(0, 0);
        Kit.due("three, and the one that is not there", y.run(15), 4);
        Kit.due("that FAULT is signalled, too", y.term(0, Kit.REASON), Kit.FAULT);
    }

    /** "if there is no instruction at the place": at the time when it is its turn */
    private static void anInstructionThatComesLater() {
        TurnHost x = new TurnHost(8);
        x.begin(0, 0);
        x.add(Kit.INT, 1, 5, 0);
        Kit.due("the one that came, then none", x.run(15), 2);
        Kit.due("was done", x.term(0, 1), Kit.AN_INT + 5);
    }

    /** "0 INT a b: R a := the int b": any int */
    private static void ints() {
        for (int n : EXTREMES) {
            TurnHost x = Kit.ran(5, Kit.op(Kit.INT, 7, n), Kit.op(Kit.RETURN));
            Kit.due("INT " + n, x.digest(0, 7), Kit.mix(1, n));
        }
    }

    /** "9 ADD a b c, 10 SUB a b c: R a := R b + R c, R b - R c, ints (wrap)" */
    private static void sumsWrap() {
        for (int n : EXTREMES) {
            for (int m : EXTREMES) {
                TurnHost x = Kit.ran(n, Kit.op(Kit.INT, 1, m), Kit.op(Kit.ADD, 2, 0, 1), Kit.op(Kit.SUB, 3, 0, 1), Kit.op(Kit.RETURN));
                Kit.due(n + " + " + m, x.digest(0, 2), Kit.mix(1, (int) ((long) n + m)));
                Kit.due(n + " - " + m, x.digest(0, 3), Kit.mix(1, (int) ((long) n - m)));
                Kit.due("no fault", x.term(0, Kit.REASON), Kit.NORMAL);
            }
        }
    }

    /** "11 LESS a b l: if the int R a is not less than the int R b, on at l": no difference wraps in between */
    private static void less() {
        for (int n : EXTREMES) {
            for (int m : EXTREMES) {
                TurnHost x = Kit.host(50, Kit.op(Kit.INT, 1, m), Kit.op(Kit.LESS, 0, 1, 40));
                x.begin(0, n);
                x.run(2);
                Kit.due(n + " less than " + m, x.process(0, Kit.PLACE), n < m ? 2 : 40);
            }
        }
    }

    /** "on at l": from 0 to 47, whether there is an instruction or not */
    private static void targetsAre0To47() {
        for (int l : new int[] {0, 1, 46, 47}) {
            int[][] jumps = {Kit.op(Kit.LESS, 0, 0, l), Kit.op(Kit.SAME, 0, 1, l), Kit.op(Kit.IS, 0, 5, l), Kit.op(Kit.JUMP, l), Kit.op(Kit.CALL, l),
                Kit.op(Kit.PEEK, 1, l), Kit.op(Kit.NEXT, l), Kit.op(Kit.WAIT, l)};
            for (int[] jump : jumps) {
                TurnHost x = Kit.host(50, Kit.op(Kit.NIL, 7), Kit.op(Kit.NIL, 7), jump);
                x.begin(2, 0);
                x.run(1);
                Kit.due("operation " + jump[0] + " to " + l, x.process(0, Kit.PLACE), l);
                Kit.due("operation " + jump[0] + " is no end", x.process(0, Kit.STATE) != Kit.ENDED, true);
            }
        }
    }

    /** Process 1 ends, or waits behind what it is told; then 0, which has its pid, is told to go on at 2. */
    private static TurnHost twoOfThem(int[][] deed, int[][] other, int messages) {
        TurnHost x = Kit.host(50, Kit.join(Kit.one(Kit.SPAWN, 1, 20, 0), Kit.one(Kit.WAIT, 2), deed, Kit.times(18 - deed.length, Kit.JUMP, 19), other));
        x.begin(0, 44);
        x.run(1);
        for (int k = 1; k <= messages; k++) {
            x.tell(1, k);
        }
        Kit.runOut(x);
        x.tell(0, 0);
        return x;
    }

    /** "17 SEND a b ... (nothing if it has ended ...)" */
    private static void sendToAnEndedOne() {
        TurnHost x = twoOfThem(Kit.one(Kit.SEND, 1, 0), Kit.one(Kit.RETURN), 3);
        String before = Kit.state(x, 1);
        x.run(1);
        Kit.due("the ended one", Kit.state(x, 1), before);
        Kit.due("the queue", Kit.queue(x), "0");
        Kit.due("the sender's place", x.process(0, Kit.PLACE), 3);
    }

    /** "17 SEND a b ... (nothing if it ... has 12 messages)" */
    private static void sendToAFullOne() {
        for (int messages = 11; messages <= 12; messages++) {
            TurnHost x = Kit.host(50, Kit.op(Kit.SPAWN, 1, 5, 0), Kit.op(Kit.SEND, 1, 0), Kit.op(Kit.JUMP, 2));
            x.begin(0, 44);
            x.run(1);
            for (int k = 0; k < messages; k++) {
                x.tell(1, k);
            }
            x.run(1);
            Kit.due("12 of them", x.process(1, Kit.MAIL), 12);
            Kit.due("the last of them", x.term(1, Kit.MESSAGE + 11), Kit.AN_INT + (messages == 11 ? 44 : 11));
            Kit.due("the sender goes on", x.process(0, Kit.PLACE), 2);
            Kit.due("the queue is as it was", Kit.queue(x), "0 1");
        }
    }

    /** "nothing if it ... has 12 messages": one that waits behind its twelve is not made ready either */
    private static void sendToAFullOneThatWaits() {
        TurnHost x = twoOfThem(Kit.one(Kit.SEND, 1, 0), Kit.passOverAndWait(20), 12);
        Kit.due("it waits behind twelve", x.process(1, Kit.MARK), 12);
        String before = Kit.state(x, 1);
        x.run(1);
        Kit.due("and goes on waiting", Kit.state(x, 1), before);
        Kit.due("the queue", Kit.queue(x), "0");
    }

    /** "if that waits, it is ready": with its twelfth message, too, and at the end of the queue */
    private static void sendToOneThatWaits() {
        for (int messages : new int[] {0, 1, 11}) {
            TurnHost x = twoOfThem(Kit.one(Kit.SEND, 1, 0), Kit.passOverAndWait(20), messages);
            Kit.due("it waits", x.process(1, Kit.STATE), Kit.WAITS);
            x.begin(19, 0);
            x.run(1);
            Kit.due("ready", x.process(1, Kit.STATE), Kit.READY);
            Kit.due("at the end", Kit.queue(x), "0 2 1");
            Kit.due("the message is the last", x.term(1, Kit.MESSAGE + messages), Kit.AN_INT + 44);
            Kit.due("its place is what it was", x.process(1, Kit.PLACE), 20);
        }
    }

    /** "if that waits": one that is ready keeps its place in the queue */
    private static void sendToOneThatIsReady() {
        TurnHost x = Kit.host(50, Kit.op(Kit.SPAWN, 1, 5, 0), Kit.op(Kit.SPAWN, 2, 5, 0), Kit.op(Kit.SEND, 1, 0), Kit.op(Kit.SELF, 3), Kit.op(Kit.SEND, 3, 0), Kit.op(Kit.JUMP, 5));
        x.begin(0, 0);
        x.run(3);
        Kit.due("the receiver stays where it is", Kit.queue(x), "0 1 2");
        x.run(2);
        Kit.due("the sender, too, if it sends to itself", Kit.queue(x), "0 1 2");
        Kit.due("the message has come", x.process(0, Kit.MAIL), 1);
    }

    /** "18 PEEK a l: if there is a message at the mark (0 the oldest), R a := it": at the first and the last of twelve */
    private static void peekAtTheMark() {
        TurnHost x = Kit.host(50, Kit.op(Kit.PEEK, 1, 9), Kit.op(Kit.NEXT, 0));
        x.begin(0, 0);
        for (int k = 0; k < 12; k++) {
            x.tell(0, 20 + k);
        }
        for (int k = 0; k < 12; k++) {
            x.run(1);
            Kit.due("message " + k, x.term(0, 1), Kit.AN_INT + 20 + k);
            Kit.due("on behind it", x.process(0, Kit.PLACE), 1);
            Kit.due("the mark stays", x.process(0, Kit.MARK), k);
            x.run(1);
        }
        Kit.due("all are there still", x.process(0, Kit.MAIL), 12);
    }

    /** "else on at l (b)": in an empty mailbox, right behind the last message, and far behind it */
    private static void peekWithoutMessage() {
        for (int messages = 0; messages <= 12; messages++) {
            for (int mark = messages; mark <= messages + 2; mark++) {
                TurnHost x = passed(mark, messages, Kit.op(Kit.PEEK, 0, 33));
                Kit.due("on at l", x.process(0, Kit.PLACE), 33);
                Kit.due("the register stays", x.term(0, 0), Kit.AN_INT + 66);
                Kit.due("the mark stays", x.process(0, Kit.MARK), mark);
                Kit.due("the messages stay", x.process(0, Kit.MAIL), messages);
                Kit.due("no fault", x.process(0, Kit.STATE), Kit.READY);
            }
        }
    }

    /** A process, with the int 66 in register 0 and so many messages, that has passed over so many and then done the last. */
    private static TurnHost passed(int mark, int messages, int[] last) {
        TurnHost x = new TurnHost(50);
        for (int k = 0; k < mark; k++) {
            x.add(Kit.NEXT, k + 1, 0, 0);
        }
        Kit.load(x, last);
        x.begin(0, 66);
        for (int k = 0; k < messages; k++) {
            x.tell(0, k);
        }
        x.run(mark + 1);
        return x;
    }

    /** "19 TAKE: the message at the mark goes, and the mark is 0": the only one, and each of twelve */
    private static void takeSetsTheMark() {
        for (int mark = 0; mark < 12; mark++) {
            for (int messages : new int[] {mark + 1, 12}) {
                TurnHost x = passed(mark, messages, Kit.op(Kit.TAKE));
                Kit.due("one fewer", x.process(0, Kit.MAIL), messages - 1);
                Kit.due("the mark", x.process(0, Kit.MARK), 0);
                Kit.due("it goes on", x.process(0, Kit.STATE), Kit.READY);
                Kit.due("the one at the mark is gone", x.term(0, Kit.MESSAGE + mark), mark == messages - 1 ? -1 : Kit.AN_INT + mark + 1);
                Kit.due("the one before it is not", mark == 0 || x.term(0, Kit.MESSAGE + mark - 1) == Kit.AN_INT + mark - 1, true);
            }
        }
    }

    /** "there is no message at the mark (19): the process ends with FAULT": right behind the last, and far behind it */
    private static void takeWithoutMessage() {
        for (int messages = 0; messages <= 12; messages++) {
            for (int mark = messages; mark <= messages + 2; mark++) {
                TurnHost x = passed(mark, messages, Kit.op(Kit.TAKE));
                Kit.due("FAULT", x.term(0, Kit.REASON), Kit.FAULT);
                Kit.due("the messages stay", x.process(0, Kit.MAIL), messages);
                Kit.due("the mark stays", x.process(0, Kit.MARK), mark);
            }
        }
    }

    /** "20 NEXT l (a): the mark is 1 more": beyond the messages, and beyond 12 */
    private static void nextGoesBeyondTheMessages() {
        TurnHost x = Kit.host(50, Kit.op(Kit.NEXT, 0));
        x.begin(0, 0);
        x.tell(0, 5);
        for (int k = 1; k <= 30; k++) {
            x.run(1);
            Kit.due("the mark", x.process(0, Kit.MARK), k);
        }
        Kit.due("no fault", x.process(0, Kit.STATE), Kit.READY);
    }

    /** "21 WAIT l (a): ... if there is no message at the mark or behind it, it waits, else it goes on": it goes on */
    private static void waitWithAMessageAtTheMark() {
        for (int mark = 0; mark < 12; mark++) {
            TurnHost x = passed(mark, mark + 1, Kit.op(Kit.WAIT, 33));
            Kit.due("one message at the mark: ready", x.process(0, Kit.STATE), Kit.READY);
            Kit.due("it goes on at l", x.process(0, Kit.PLACE), 33);
            Kit.due("in the queue", Kit.queue(x), "0");
            TurnHost y = passed(mark, 12, Kit.op(Kit.WAIT, 33));
            Kit.due("more behind the mark: ready", y.process(0, Kit.STATE), Kit.READY);
        }
    }

    /** "if there is no message at the mark or behind it, it waits": the mark behind the last, or further on */
    private static void waitWithoutOne() {
        for (int mark = 0; mark <= 14; mark++) {
            for (int messages = 0; messages <= Math.min(mark, 12); messages++) {
                TurnHost x = passed(mark, messages, Kit.op(Kit.WAIT, 33));
                Kit.due("mark " + mark + ", messages " + messages + ": it waits", x.process(0, Kit.STATE), Kit.WAITS);
                Kit.due("at l", x.process(0, Kit.PLACE), 33);
                Kit.due("out of the queue", Kit.queue(x), "");
                Kit.due("the mark stays", x.process(0, Kit.MARK), mark);
            }
        }
    }

    /** "22 SPAWN a l c: a new process at l (b), with its R 0 := R c, ready; R a := its pid": a and c may be the same */
    private static void spawnOntoItsOwnArgument() {
        TurnHost x = Kit.host(50, Kit.join(Kit.chain(7, 15), Kit.one(Kit.SPAWN, 7, 40, 7)));
        x.begin(0, 3);
        x.run(9);
        Kit.due("the pid", x.term(0, 7), Kit.A_PID + 1);
        Kit.due("the argument, of weight 15", x.term(1, 0), 4001500);
    }

    /** "22 SPAWN": at an l without an instruction, too */
    private static void spawnWithoutInstruction() {
        TurnHost x = Kit.host(50, Kit.op(Kit.SPAWN, 1, 47, 0), Kit.op(Kit.RETURN));
        x.begin(0, 3);
        x.run(1);
        Kit.due("ready at 47", x.process(1, Kit.STATE) * 100 + x.process(1, Kit.PLACE), 147);
        Kit.due("the other's end, and its own", x.run(15), 2);
        Kit.due("FAULT", x.term(1, Kit.REASON), Kit.FAULT);
        Kit.due("NORMAL", x.term(0, Kit.REASON), Kit.NORMAL);
    }

    /** "23 LINK a: ... nothing if it is itself": whether it traps or not */
    private static void linkItself() {
        for (int traps = 0; traps < 2; traps++) {
            TurnHost x = Kit.host(50, Kit.op(Kit.TRAP, traps), Kit.op(Kit.SELF, 1), Kit.op(Kit.LINK, 1), Kit.op(Kit.ATOM, 2, 3), Kit.op(Kit.END, 2));
            x.begin(0, 0);
            x.run(3);
            Kit.due("ready", x.process(0, Kit.STATE), Kit.READY);
            Kit.due("no link", x.process(0, Kit.LINKS), 0);
            Kit.due("no message", x.process(0, Kit.MAIL), 0);
            x.run(2);
            Kit.due("its own end is no news", x.process(0, Kit.MAIL), 0);
        }
    }

    /** "if that has ended, they are not, but a SIGNAL with FAULT comes from there to it": whatever it ended with */
    private static void linkAnEndedOne() {
        int[][] ends = {Kit.op(Kit.RETURN), Kit.op(Kit.END, 0), Kit.op(Kit.TAKE)};
        for (int[] end : ends) {
            TurnHost x = twoOfThem(Kit.one(Kit.LINK, 1), new int[][] {end}, 0);
            String before = Kit.state(x, 1);
            Kit.due("LINK is its last", x.run(15), 1);
            Kit.due("FAULT", x.term(0, Kit.REASON), Kit.FAULT);
            Kit.due("no link", x.process(0, Kit.LINKS), 0);
            Kit.due("the other is as it was", Kit.state(x, 1), before);
            TurnHost y = twoOfThem(Kit.join(Kit.one(Kit.TRAP, 1), Kit.one(Kit.LINK, 1)), new int[][] {end}, 0);
            y.run(2);
            Kit.due("one that traps goes on", y.process(0, Kit.STATE), Kit.READY);
            Kit.due("with the notice, behind what was told", y.digest(0, Kit.MESSAGE + 1), Kit.notice(1, 1, 13));
            Kit.due("one notice", y.process(0, Kit.MAIL), 2);
            Kit.due("no link", y.process(0, Kit.LINKS), 0);
        }
    }

    /** "it and the process R a are linked": once, however often, and from either side */
    private static void linkAgain() {
        TurnHost x = Kit.host(1, Kit.op(Kit.SELF, 1), Kit.op(Kit.SPAWN, 2, 4, 1), Kit.op(Kit.LINK, 2), Kit.op(Kit.JUMP, 2), Kit.op(Kit.LINK, 0), Kit.op(Kit.JUMP, 4));
        x.begin(0, 0);
        x.run(15);
        Kit.due("links of 0", x.process(0, Kit.LINKS), 2);
        Kit.due("links of 1", x.process(1, Kit.LINKS), 1);
        Kit.due("both go on", Kit.queue(x).length(), 3);
    }

    /** "24 TRAP a: it traps from now on, if a is 1, or no more": with any other number no more */
    private static void trapOnlyWith1() {
        for (int a : new int[] {0, -1, 2, 3, 8, 16, 48, 257, Integer.MIN_VALUE + 1, Integer.MIN_VALUE, Integer.MAX_VALUE}) {
            TurnHost x = Kit.host(50, Kit.op(Kit.TRAP, 1), Kit.op(Kit.TRAP, 1), Kit.op(Kit.TRAP, a), Kit.op(Kit.SELF, 1), Kit.op(Kit.STOP, 1));
            x.begin(0, 0);
            x.run(2);
            Kit.due("it traps", x.process(0, Kit.TRAPS), 1);
            x.run(1);
            Kit.due("no more after TRAP " + a, x.process(0, Kit.TRAPS), 0);
            x.run(2);
            Kit.due("and is stopped", x.term(0, Kit.REASON), Kit.KILLED);
        }
    }

    /** "25 END a: it ends with R a": a term of any sort, and of weight 15 */
    private static void endWithAnyTerm() {
        int[][] makers = {Kit.op(Kit.INT, 1, -1), Kit.op(Kit.ATOM, 1, 0), Kit.op(Kit.SELF, 1), Kit.op(Kit.NIL, 1), Kit.op(Kit.PAIR, 1, 0, 0), Kit.op(Kit.TUPLE, 1, 0, 0)};
        int[] due = {Kit.AN_INT + 99, Kit.AN_ATOM, Kit.A_PID, Kit.THE_NIL, 4000300, 5000300};
        for (int k = 0; k < makers.length; k++) {
            Kit.due("END with sort " + k, Kit.ran(0, makers[k], Kit.op(Kit.END, 1)).term(0, Kit.REASON), due[k]);
        }
        Kit.due("END with weight 15", Kit.ranParts(0, Kit.chain(1, 15), Kit.one(Kit.END, 1)).term(0, Kit.REASON), 4001500);
    }

    /** "26 STOP a: a signal KILLED comes from it to the process R a, whether linked or not" */
    private static void stopWhetherLinkedOrNot() {
        for (int linked = 0; linked < 2; linked++) {
            int[] link = linked == 1 ? Kit.op(Kit.LINK, 1) : Kit.op(Kit.NIL, 7);
            TurnHost x = Kit.host(50, Kit.op(Kit.TRAP, 1), Kit.op(Kit.SPAWN, 1, 6, 0), link, Kit.op(Kit.STOP, 1), Kit.op(Kit.JUMP, 4), Kit.op(Kit.NIL, 7), Kit.op(Kit.JUMP, 6));
            x.begin(0, 0);
            x.run(4);
            Kit.due("KILLED", x.term(1, Kit.REASON), Kit.KILLED);
            Kit.due("news of its end for a linked one alone", x.process(0, Kit.MAIL), linked);
            Kit.due("the stopper goes on", Kit.queue(x), "0");
        }
    }

    /** "26 STOP a: ... (if that has not ended)": an ended one that had trapped hears of nothing, and keeps its reason */
    private static void stopAnEndedOne() {
        TurnHost x = twoOfThem(Kit.one(Kit.STOP, 1), Kit.join(Kit.one(Kit.TRAP, 1), Kit.one(Kit.END, 0)), 2);
        String before = Kit.state(x, 1);
        x.run(1);
        Kit.due("the ended one", Kit.state(x, 1), before);
        Kit.due("the stopper goes on", x.process(0, Kit.PLACE), 3);
        Kit.due("the stopper is ready", Kit.queue(x), "0");
    }

    /** "26 STOP a": itself, too */
    private static void stopItself() {
        TurnHost x = Kit.host(50, Kit.op(Kit.SELF, 1), Kit.op(Kit.STOP, 1), Kit.op(Kit.NIL, 2));
        x.begin(0, 0);
        Kit.due("its last", x.run(15), 2);
        Kit.due("KILLED", x.term(0, Kit.REASON), Kit.KILLED);
        TurnHost y = Kit.host(50, Kit.op(Kit.TRAP, 1), Kit.op(Kit.SELF, 1), Kit.op(Kit.STOP, 1), Kit.op(Kit.JUMP, 3));
        y.begin(0, 0);
        y.run(3);
        Kit.due("if it traps, it goes on", y.process(0, Kit.STATE), Kit.READY);
        Kit.due("with the notice", y.digest(0, Kit.MESSAGE), Kit.notice(0, 1, 12));
        Kit.due("in the queue once", Kit.queue(y), "0");
    }
}
