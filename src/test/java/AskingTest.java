/** Promises 7 to 11: what can be asked, with the edges; that asking changes nothing. */
public final class AskingTest {
    public static void main(String[] args) {
        process();
        wrongProcesses();
        linksWithAllOthers();
        theLastOf512Calls();
        queue();
        queueAtItsEnd();
        processes();
        term();
        allMessages();
        allPids();
        digest();
        digestWraps();
        askingChangesNothing();
        Kit.finish();
    }

    private static TurnHost busy() {
        TurnHost x = Kit.host(6, Kit.op(Kit.TRAP, 1), Kit.op(Kit.SPAWN, 1, 8, 0), Kit.op(Kit.SPAWN, 2, 9, 0), Kit.op(Kit.LINK, 2), Kit.op(Kit.CALL, 5), Kit.op(Kit.NEXT, 6),
            Kit.op(Kit.JUMP, 6), Kit.op(Kit.NIL, 0), Kit.op(Kit.WAIT, 7), Kit.op(Kit.JUMP, 9));
        x.begin(0, -250);
        x.tell(0, 31);
        x.tell(0, 32);
        x.tell(0, 33);
        x.run(10);
        return x;
    }

    private static void process() {
        TurnHost x = busy();
        int[] due = {Kit.READY, 6, 1, 3, 1, 4, 1, 6};
        for (int what = 0; what < due.length; what++) {
            Kit.due("process 0, " + what, x.process(0, what), due[what]);
        }
        int[] due1 = {Kit.WAITS, 7, 0, 0, 0, 0, 0, 1};
        for (int what = 0; what < due1.length; what++) {
            Kit.due("process 1, " + what, x.process(1, what), due1[what]);
        }
        int[] due2 = {Kit.READY, 9, 0, 0, 0, 1, 0, 3};
        for (int what = 0; what < due2.length; what++) {
            Kit.due("process 2, " + what, x.process(2, what), due2[what]);
        }
        TurnHost y = Kit.ran(0, Kit.op(Kit.NIL, 0), Kit.op(Kit.RETURN), Kit.op(Kit.RETURN));
        int[] ended = {Kit.ENDED, 2, 0, 0, 0, 0, 0, 2};
        for (int what = 0; what < ended.length; what++) {
            Kit.due("an ended one, " + what, y.process(0, what), ended[what]);
        }
    }

    /** "-1 if there is no such process or what", "-1 if there is none", "0 if there is none" */
    private static void wrongProcesses() {
        for (int p : new int[] {3, 11, 12, 13}) {
            none(busy(), p);
        }
        TurnHost x = busy();
        for (int p : Kit.FAR_OUT) {
            none(busy(), p);
            Kit.due("what " + p, x.process(0, p), -1);
            Kit.due("where " + p, x.term(0, p), -1);
            Kit.due("digest where " + p, x.digest(0, p), 0);
        }
        Kit.due("what 8", x.process(0, 8), -1);
        Kit.due("what 9", x.process(0, 9), -1);
    }

    /** "5 its links, the sum of 2^number": of all that there can be */
    private static void linksWithAllOthers() {
        TurnHost x = Kit.host(50, Kit.op(Kit.SPAWN, 1, 3, 0), Kit.op(Kit.LINK, 1), Kit.op(Kit.JUMP, 0), Kit.op(Kit.JUMP, 3));
        x.begin(0, 0);
        for (int k = 1; k <= 11; k++) {
            x.run(3);
            Kit.due("with " + k + " others", x.process(0, Kit.LINKS), (2 << k) - 2);
        }
        for (int p = 1; p < 12; p++) {
            Kit.due("links of " + p, x.process(p, Kit.LINKS), 1);
        }
    }

    /** "An object is used for at most 512 calls": counts that have grown all that time */
    private static void theLastOf512Calls() {
        TurnHost x = Kit.host(50, Kit.op(Kit.NEXT, 0));
        x.begin(0, 0);
        for (int call = 2; call < 510; call++) {
            x.run(15);
        }
        Kit.due("the mark", x.process(0, Kit.MARK), 508 * 15);
        Kit.due("the reductions", x.process(0, Kit.DONE), 508 * 15);
    }

    private static void none(TurnHost x, int p) {
        for (int what = 0; what < 8; what++) {
            Kit.due("process " + p, x.process(p, what), -1);
        }
        for (int where = 0; where < 22; where++) {
            Kit.due("term of " + p, x.term(p, where), -1);
            Kit.due("digest of " + p, x.digest(p, where), 0);
        }
    }

    private static void queue() {
        TurnHost x = busy();
        Kit.due("whose turn it is", x.queue(0), 2);
        Kit.due("the next", x.queue(1), 0);
        Kit.due("one waits", x.queue(2), -1);
        for (int k : Kit.FAR_OUT) {
            Kit.due("queue " + k, x.queue(k), -1);
        }
        TurnHost y = Kit.host(1, Kit.op(Kit.JUMP, 0));
        for (int p = 0; p < 12; p++) {
            y.begin(0, 0);
        }
        y.run(5);
        for (int k = 0; k < 12; k++) {
            Kit.due("queue " + k + " of twelve", y.queue(k), (k + 5) % 12);
        }
        Kit.due("queue 12", y.queue(12), -1);
    }

    /** "-1 if there is none": before the first, behind the last, for every length that a queue can have */
    private static void queueAtItsEnd() {
        TurnHost x = Kit.host(1, Kit.op(Kit.RETURN));
        Kit.due("an empty queue", x.queue(0), -1);
        for (int count = 1; count <= 12; count++) {
            x.begin(0, 0);
            Kit.due("before the first", x.queue(-1), -1);
            Kit.due("the last", x.queue(count - 1), count - 1);
            Kit.due("behind the last", x.queue(count), -1);
        }
        for (int count = 11; count >= 0; count--) {
            x.run(1);
            Kit.due("the last that is left", x.queue(count - 1), count == 0 ? -1 : 11);
            Kit.due("behind it", x.queue(count), -1);
        }
    }

    /** "How many processes there are, ended ones too." */
    private static void processes() {
        TurnHost x = Kit.host(1, Kit.op(Kit.SPAWN, 1, 1, 0), Kit.op(Kit.RETURN));
        Kit.due("none", x.processes(), 0);
        for (int p = 1; p <= 5; p++) {
            x.begin(1, 0);
            Kit.due("begun", x.processes(), p);
        }
        x.begin(0, 0);
        Kit.runOut(x);
        Kit.due("a spawned one and ended ones too", x.processes(), 7);
        x.begin(48, 0);
        Kit.due("a refused one not", x.processes(), 7);
    }

    private static void term() {
        TurnHost x = busy();
        Kit.due("-250 mod 100", x.term(0, 0), Kit.AN_INT + 50);
        Kit.due("a pid", x.term(0, 2), Kit.A_PID + 2);
        Kit.due("nil", x.term(0, 7), Kit.THE_NIL);
        Kit.due("no reason yet", x.term(0, Kit.REASON), -1);
        for (int k = 0; k < 3; k++) {
            Kit.due("message " + k, x.term(0, Kit.MESSAGE + k), Kit.AN_INT + 31 + k);
        }
        Kit.due("no message 3", x.term(0, Kit.MESSAGE + 3), -1);
        int[] numbers = {0, 1, 99, 100, 101, -1, -99, -100, -101, Integer.MAX_VALUE, Integer.MIN_VALUE};
        int[] shown = {0, 1, 99, 0, 1, 99, 1, 0, 99, 47, 52};
        for (int k = 0; k < numbers.length; k++) {
            TurnHost y = new TurnHost(1);
            y.begin(0, numbers[k]);
            Kit.due("the int " + numbers[k], y.term(0, 0), Kit.AN_INT + shown[k]);
        }
        TurnHost z = Kit.ran(0, Kit.op(Kit.ATOM, 1, 9), Kit.op(Kit.PAIR, 2, 0, 1), Kit.op(Kit.TUPLE, 3, 2, 2), Kit.op(Kit.END, 3));
        Kit.due("an atom", z.term(0, 1), Kit.AN_ATOM + 9);
        Kit.due("a pair", z.term(0, 2), 4000300);
        Kit.due("a tuple", z.term(0, 3), 5000700);
        Kit.due("the reason", z.term(0, Kit.REASON), 5000700);
    }

    /** "9 + k message k of its mailbox ...; -1 if there is none": for every count that a mailbox can have */
    private static void allMessages() {
        TurnHost x = new TurnHost(1);
        x.begin(0, 0);
        for (int count = 0; count <= 12; count++) {
            Kit.due("behind the last of " + count, x.term(0, Kit.MESSAGE + count), -1);
            Kit.due("its digest", x.digest(0, Kit.MESSAGE + count), 0);
            Kit.due("where 8 is no message", x.term(0, Kit.REASON), -1);
            x.tell(0, 40 + count);
            Kit.due("message " + count, x.term(0, Kit.MESSAGE + count), count == 12 ? -1 : Kit.AN_INT + 40 + count);
            Kit.due("its digest", x.digest(0, Kit.MESSAGE + count), count == 12 ? 0 : Kit.mix(1, 40 + count));
            Kit.due("the oldest", x.term(0, Kit.MESSAGE), Kit.AN_INT + 40);
        }
    }

    /** "for an int, atom or pid + its number": the pids 0 .. 11 */
    private static void allPids() {
        TurnHost x = Kit.host(1, Kit.op(Kit.SELF, 7));
        for (int p = 0; p < 12; p++) {
            x.begin(0, 0);
        }
        x.run(12);
        for (int p = 0; p < 12; p++) {
            Kit.due("the pid " + p, x.term(p, 7), Kit.A_PID + p);
            Kit.due("its digest", x.digest(p, 7), Kit.mix(3, p));
        }
    }

    private static void digest() {
        TurnHost x = Kit.ran(-3, Kit.op(Kit.ATOM, 1, 9), Kit.op(Kit.SELF, 2), Kit.op(Kit.PAIR, 4, 0, 1), Kit.op(Kit.TUPLE, 5, 3, 4), Kit.op(Kit.PAIR, 6, 5, 2), Kit.op(Kit.END, 6));
        Kit.due("an int", x.digest(0, 0), Kit.mix(1, -3));
        Kit.due("an atom", x.digest(0, 1), Kit.mix(2, 9));
        Kit.due("a pid", x.digest(0, 2), Kit.mix(3, 0));
        Kit.due("nil", x.digest(0, 3), Kit.mix(4));
        Kit.due("a pair", x.digest(0, 4), Kit.mix(5, 1, -3, 2, 9));
        Kit.due("a tuple", x.digest(0, 5), Kit.mix(6, 4, 5, 1, -3, 2, 9));
        Kit.due("a pair on the left", x.digest(0, 6), Kit.mix(5, 6, 4, 5, 1, -3, 2, 9, 3, 0));
        Kit.due("the reason", x.digest(0, Kit.REASON), x.digest(0, 6));
        Kit.due("no message", x.digest(0, Kit.MESSAGE), 0);
        TurnHost y = busy();
        Kit.due("no reason", y.digest(0, Kit.REASON), 0);
        Kit.due("a message", y.digest(0, Kit.MESSAGE + 2), Kit.mix(1, 33));
        Kit.due("no message 3", y.digest(0, Kit.MESSAGE + 3), 0);
    }

    /** "wraps": counted with all digits, and cut to an int at the end alone */
    private static void digestWraps() {
        for (int n : new int[] {0, 1, -1, Integer.MAX_VALUE, Integer.MIN_VALUE}) {
            TurnHost x = Kit.ranParts(n, Kit.chain(1, 15), Kit.one(Kit.RETURN));
            java.math.BigInteger s = java.math.BigInteger.valueOf(7);
            for (int k = 0; k < 7; k++) {
                s = step(s, 5);
            }
            for (int k = 0; k < 8; k++) {
                s = step(step(s, 1), n);
            }
            Kit.due("weight 15, of the int " + n, x.digest(0, 1), s.intValue());
        }
    }

    private static java.math.BigInteger step(java.math.BigInteger s, int more) {
        return s.multiply(java.math.BigInteger.valueOf(31)).add(java.math.BigInteger.valueOf(more));
    }

    private static void askingChangesNothing() {
        for (int p = -1; p < 13; p++) {
            TurnHost x = busy();
            TurnHost y = busy();
            for (int where = -1; where < 22; where++) {
                x.process(p, where);
                x.term(p, where);
                x.digest(p, where);
                x.queue(where);
                x.processes();
            }
            Kit.due("the state", Kit.state(x), Kit.state(y));
            Kit.due("run", x.run(15), y.run(15));
            Kit.due("the state after it", Kit.state(x), Kit.state(y));
        }
    }
}
