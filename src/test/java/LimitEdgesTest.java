/** The edges that the second paragraph of 'Terms' names: instructions, processes, registers, returns, messages, the mark. */
public final class LimitEdgesTest {
    public static void main(String[] args) {
        atMost48Instructions();
        theLastInstructionIsDone();
        atMost12Processes();
        endedOnesCountAmongThe12();
        aSpawnedOneIsAsNewAsABegunOne();
        registers0To7();
        atMost6Returns();
        aReturnThatGoesMakesRoom();
        returnsComeBackInTheirOrder();
        atMost12MessagesByTell();
        atMost12MessagesBySend();
        atMost12MessagesByNotice();
        aMessageTakenMakesRoom();
        theMarkIs0AtFirst();
        readyOnesAloneStandInTheQueue();
        Kit.finish();
    }

    /** "CODE is a row of at most 48 INSTRUCTIONS, numbered from 0" */
    private static void atMost48Instructions() {
        TurnHost x = new TurnHost(8);
        for (int k = 0; k < 48; k++) {
            Kit.due("the number of instruction " + k, x.add(Kit.NIL, 0, 0, 0), k);
        }
        for (int operation = 0; operation < 27; operation++) {
            Kit.due("a 49th, operation " + operation, x.add(operation, 0, 0, 0), -1);
        }
    }

    /** "at most 48", and "if there is no instruction at the place": 47 has one, 48 has none */
    private static void theLastInstructionIsDone() {
        TurnHost x = Kit.host(50, Kit.join(Kit.times(47, Kit.NIL, 1), Kit.one(Kit.INT, 1, 47)));
        x.begin(47, 0);
        Kit.due("the last, and the one that is not there", x.run(15), 2);
        Kit.due("the last was done", x.term(0, 1), Kit.AN_INT + 47);
        Kit.due("the place behind it", x.process(0, Kit.PLACE), 48);
        Kit.due("FAULT there", x.term(0, Kit.REASON), Kit.FAULT);
        TurnHost y = Kit.host(50, Kit.join(Kit.one(Kit.RETURN), Kit.times(46, Kit.NIL, 1), Kit.one(Kit.CALL, 0)));
        y.begin(47, 0);
        Kit.due("CALL at 47, RETURN to 48, none there", y.run(15), 3);
        Kit.due("the place it came back to", y.process(0, Kit.PLACE), 48);
        Kit.due("FAULT there, too", y.term(0, Kit.REASON), Kit.FAULT);
    }

    /** "PROCESSES are numbered from 0 as they begin, at most 12": begun and spawned ones together */
    private static void atMost12Processes() {
        TurnHost x = Kit.host(1, Kit.op(Kit.SPAWN, 1, 1, 0), Kit.op(Kit.JUMP, 1));
        for (int k = 0; k < 6; k++) {
            Kit.due("begun", x.begin(0, k), 2 * k);
            x.run(15);
            Kit.due("it has spawned the next", x.term(2 * k, 1), Kit.A_PID + 2 * k + 1);
            Kit.due("so many", x.processes(), 2 * k + 2);
        }
        Kit.due("no 13th", x.begin(0, 0), -1);
        Kit.due("12", x.processes(), 12);
        TurnHost y = Kit.host(1, Kit.op(Kit.SPAWN, 1, 1, 0), Kit.op(Kit.JUMP, 1));
        for (int k = 0; k < 11; k++) {
            y.begin(1, 0);
        }
        Kit.due("the 12th begins", y.begin(0, 0), 11);
        y.run(12);
        Kit.due("but spawns no 13th", y.term(11, Kit.REASON), Kit.FAULT);
        Kit.due("12 still", y.processes(), 12);
    }

    /** "at most 12": an ended one keeps its number */
    private static void endedOnesCountAmongThe12() {
        TurnHost x = Kit.host(50, Kit.op(Kit.RETURN), Kit.op(Kit.SPAWN, 1, 0, 0));
        for (int k = 0; k < 11; k++) {
            x.begin(0, k);
        }
        Kit.due("eleven ends", x.run(15), 11);
        Kit.due("the 12th", x.begin(1, 0), 11);
        Kit.due("its SPAWN is done", x.run(15), 1);
        Kit.due("as a FAULT", x.term(11, Kit.REASON), Kit.FAULT);
        Kit.due("without a pid", x.term(11, 1), Kit.THE_NIL);
        Kit.due("begin", x.begin(0, 0), -1);
        for (int p = 0; p < 11; p++) {
            Kit.due("the ended one is what it was", x.term(p, 0), Kit.AN_INT + p);
        }
        Kit.due("clear makes room", x.clear(false), 12);
        Kit.due("from 0 on", x.begin(0, 0), 0);
    }

    /** "REGISTERS 0 .. 7 (terms, all NIL at first) ... a MARK in it (0 at first)": of a spawned one, too, used number or not */
    private static void aSpawnedOneIsAsNewAsABegunOne() {
        TurnHost x = Kit.host(50, Kit.op(Kit.SPAWN, 0, 1, 0), Kit.op(Kit.TRAP, 1), Kit.op(Kit.CALL, 3), Kit.op(Kit.NEXT, 4), Kit.op(Kit.SELF, 7), Kit.op(Kit.END, 7));
        x.begin(1, 5);
        x.begin(1, 5);
        x.tell(1, 6);
        Kit.runOut(x);
        x.clear(false);
        x.begin(0, 5);
        x.run(1);
        int[] due = {Kit.READY, 1, 0, 0, 0, 0, 0, 0};
        for (int what = 0; what < 8; what++) {
            Kit.due("the spawned one's " + what, x.process(1, what), due[what]);
        }
        Kit.due("its register 0", x.term(1, 0), Kit.AN_INT + 5);
        for (int r = 1; r < 8; r++) {
            Kit.due("its register " + r, x.term(1, r), Kit.THE_NIL);
        }
        Kit.due("no reason", x.term(1, Kit.REASON), -1);
        Kit.due("no message", x.term(1, Kit.MESSAGE), -1);
    }

    /** "REGISTERS 0 .. 7": each of its own */
    private static void registers0To7() {
        TurnHost x = Kit.host(50);
        for (int r = 0; r < 8; r++) {
            x.add(Kit.INT, r, 10 + r, 0);
        }
        x.begin(0, 99);
        x.begin(0, 98);
        x.run(9);
        for (int r = 0; r < 8; r++) {
            Kit.due("register " + r, x.term(0, r), Kit.AN_INT + 10 + r);
            Kit.due("the other's register " + r, x.term(1, r), r == 0 ? Kit.AN_INT + 98 : Kit.THE_NIL);
        }
        Kit.due("no register 8", x.add(Kit.INT, 8, 0, 0), -1);
        Kit.due("no register -1", x.add(Kit.INT, -1, 0, 0), -1);
    }

    /** "at most 6 RETURNS", and "there are ... 6 returns: the process ends with FAULT" */
    private static void atMost6Returns() {
        TurnHost x = Kit.host(50, Kit.op(Kit.CALL, 1), Kit.op(Kit.CALL, 2), Kit.op(Kit.CALL, 3), Kit.op(Kit.CALL, 4), Kit.op(Kit.CALL, 5), Kit.op(Kit.CALL, 6), Kit.op(Kit.CALL, 9));
        x.begin(0, 0);
        for (int k = 1; k <= 6; k++) {
            x.run(1);
            Kit.due("returns", x.process(0, Kit.RETURNS), k);
            Kit.due("ready", x.process(0, Kit.STATE), Kit.READY);
        }
        Kit.due("the seventh CALL", x.run(15), 1);
        Kit.due("FAULT", x.term(0, Kit.REASON), Kit.FAULT);
        Kit.due("not on at l", x.process(0, Kit.PLACE), 7);
        Kit.due("six still", x.process(0, Kit.RETURNS), 6);
    }

    /** "at most 6 RETURNS": so many at once, not in all */
    private static void aReturnThatGoesMakesRoom() {
        TurnHost x = Kit.host(50, Kit.op(Kit.CALL, 1), Kit.op(Kit.CALL, 2), Kit.op(Kit.CALL, 3), Kit.op(Kit.CALL, 4), Kit.op(Kit.CALL, 5), Kit.op(Kit.CALL, 8),
            Kit.op(Kit.CALL, 8), Kit.op(Kit.JUMP, 6), Kit.op(Kit.RETURN));
        x.begin(0, 0);
        x.run(15);
        x.run(15);
        x.run(15);
        Kit.due("call and return by turns", x.process(0, Kit.STATE), Kit.READY);
        Kit.due("all of them done", x.process(0, Kit.DONE), 45);
    }

    /** "RETURN: on at the return that came last, which goes; without one the process ends with NORMAL" */
    private static void returnsComeBackInTheirOrder() {
        TurnHost x = Kit.host(50, Kit.op(Kit.CALL, 2), Kit.op(Kit.RETURN), Kit.op(Kit.CALL, 4), Kit.op(Kit.RETURN), Kit.op(Kit.CALL, 6), Kit.op(Kit.RETURN),
            Kit.op(Kit.CALL, 8), Kit.op(Kit.RETURN), Kit.op(Kit.CALL, 10), Kit.op(Kit.RETURN), Kit.op(Kit.CALL, 12), Kit.op(Kit.RETURN), Kit.op(Kit.RETURN));
        x.begin(0, 0);
        x.run(6);
        for (int k = 5; k >= 0; k--) {
            x.run(1);
            Kit.due("back behind the CALL that came last", x.process(0, Kit.PLACE), 2 * k + 1);
            Kit.due("which is gone", x.process(0, Kit.RETURNS), k);
        }
        Kit.due("no fault as yet", x.process(0, Kit.STATE), Kit.READY);
        Kit.due("one RETURN more", x.run(15), 1);
        Kit.due("NORMAL", x.term(0, Kit.REASON), Kit.NORMAL);
        Kit.due("the place behind it", x.process(0, Kit.PLACE), 2);
    }

    /** "a MAILBOX (at most 12 messages, terms; more are lost)", by tell */
    private static void atMost12MessagesByTell() {
        TurnHost x = new TurnHost(8);
        x.begin(0, 0);
        for (int k = 1; k <= 15; k++) {
            x.tell(0, k);
            Kit.due("so many", x.process(0, Kit.MAIL), Math.min(k, 12));
        }
        hasOneToTwelve(x, 0);
    }

    private static void hasOneToTwelve(TurnHost x, int p) {
        for (int k = 0; k < 12; k++) {
            Kit.due("message " + k, x.term(p, Kit.MESSAGE + k), Kit.AN_INT + k + 1);
        }
        Kit.due("no message 12", x.term(p, Kit.MESSAGE + 12), -1);
    }

    /** "more are lost", and SEND: "nothing if it ... has 12 messages" */
    private static void atMost12MessagesBySend() {
        TurnHost x = Kit.host(50, Kit.op(Kit.SELF, 1), Kit.op(Kit.INT, 2, 1), Kit.op(Kit.SEND, 1, 0), Kit.op(Kit.ADD, 0, 0, 2), Kit.op(Kit.JUMP, 2));
        x.begin(0, 1);
        x.run(2);
        for (int k = 1; k <= 14; k++) {
            x.run(3);
            Kit.due("so many", x.process(0, Kit.MAIL), Math.min(k, 12));
        }
        hasOneToTwelve(x, 0);
        Kit.due("the sender goes on", x.process(0, Kit.STATE), Kit.READY);
        Kit.due("with the next", x.term(0, 0), Kit.AN_INT + 15);
    }

    /** "more are lost", and a signal's message "comes to it as by SEND" */
    private static void atMost12MessagesByNotice() {
        TurnHost x = Kit.host(50, Kit.op(Kit.TRAP, 1), Kit.op(Kit.SELF, 1), Kit.op(Kit.STOP, 1), Kit.op(Kit.STOP, 1), Kit.op(Kit.JUMP, 4));
        x.begin(0, 0);
        x.run(2);
        for (int k = 1; k <= 11; k++) {
            x.tell(0, k);
        }
        x.run(1);
        Kit.due("the 12th is a notice", x.digest(0, Kit.MESSAGE + 11), Kit.notice(0, 1, 12));
        x.run(1);
        Kit.due("a 13th is lost", x.process(0, Kit.MAIL), 12);
        Kit.due("the oldest stays", x.term(0, Kit.MESSAGE), Kit.AN_INT + 1);
        Kit.due("it traps still and goes on", x.process(0, Kit.STATE), Kit.READY);
    }

    /** "at most 12 messages": so many at once, not in all; taken at the first, in the midst and at the last */
    private static void aMessageTakenMakesRoom() {
        for (int mark = 0; mark < 12; mark++) {
            TurnHost x = Kit.host(50, Kit.join(Kit.one(Kit.JUMP, 12 - mark), nexts(), Kit.one(Kit.TAKE), Kit.one(Kit.WAIT, 13)));
            x.begin(0, 0);
            for (int k = 1; k <= 12; k++) {
                x.tell(0, k);
            }
            x.run(mark + 2);
            Kit.due("eleven, taken at " + mark, x.process(0, Kit.MAIL), 11);
            x.tell(0, 13);
            x.tell(0, 14);
            for (int k = 0; k < 11; k++) {
                Kit.due("message " + k + ", taken at " + mark, x.term(0, Kit.MESSAGE + k), Kit.AN_INT + (k < mark ? k + 1 : k + 2));
            }
            Kit.due("the new one behind them", x.term(0, Kit.MESSAGE + 11), Kit.AN_INT + 13);
            Kit.due("and no more", x.process(0, Kit.MAIL), 12);
        }
    }

    /** Eleven NEXT at 1 .. 11, each on at the one behind it. */
    private static int[][] nexts() {
        int[][] all = new int[11][];
        for (int k = 0; k < 11; k++) {
            all[k] = Kit.op(Kit.NEXT, k + 2);
        }
        return all;
    }

    /** "a MARK in it (0 at first)" */
    private static void theMarkIs0AtFirst() {
        TurnHost x = Kit.host(50, Kit.op(Kit.PEEK, 1, 0));
        x.begin(0, 0);
        Kit.due("the mark", x.process(0, Kit.MARK), 0);
        x.tell(0, 41);
        x.tell(0, 42);
        Kit.due("messages do not move it", x.process(0, Kit.MARK), 0);
        x.run(1);
        Kit.due("the oldest is at it", x.term(0, 1), Kit.AN_INT + 41);
    }

    /** "It is READY, WAITS, or has ENDED with a REASON (a term). READY ones stand in a QUEUE." */
    private static void readyOnesAloneStandInTheQueue() {
        TurnHost x = Kit.host(1, Kit.op(Kit.WAIT, 0), Kit.op(Kit.RETURN), Kit.op(Kit.JUMP, 2));
        x.begin(0, 0);
        x.begin(1, 0);
        x.begin(2, 0);
        Kit.due("all ready", Kit.queue(x), "0 1 2");
        x.run(1);
        Kit.due("one waits", Kit.queue(x), "1 2");
        Kit.due("without a reason", x.term(0, Kit.REASON), -1);
        x.run(1);
        Kit.due("one has ended", Kit.queue(x), "2");
        Kit.due("with a reason", x.term(1, Kit.REASON), Kit.NORMAL);
        Kit.due("one is ready", x.process(2, Kit.STATE), Kit.READY);
        Kit.due("without a reason", x.term(2, Kit.REASON), -1);
        x.tell(0, 0);
        x.tell(1, 0);
        Kit.due("the one that waited stands there again", Kit.queue(x), "2 0");
    }
}
