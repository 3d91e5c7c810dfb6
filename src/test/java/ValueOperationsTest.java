/** Promise 5, operations 0 to 16: terms, tests and jumps. */
public final class ValueOperationsTest {
    private static final int[] STOP_HERE = Kit.op(Kit.RETURN);

    public static void main(String[] args) {
        leaves();
        pairsAndTuples();
        weightAtItsEdge();
        partsOfTerms();
        sumsWrap();
        less();
        same();
        is();
        jumpCallReturn();
        sixReturns();
        faultsLeaveThePlaceBehindThem();
        Kit.finish();
    }

    private static void faults(String what, int done, int[]... code) {
        TurnHost x = Kit.host(50, code);
        x.begin(0, 4);
        Kit.due(what + ": reductions", Kit.runOut(x), done);
        Kit.due(what + ": the place is behind it", x.process(0, Kit.PLACE), done);
        Kit.due(what + ": the reason", x.term(0, Kit.REASON), Kit.FAULT);
    }

    /** Whether the test at instruction 2 falls through (to END with the int 1) or goes on at 5 (END with the int 2). */
    private static void branch(String what, boolean through, int[] first, int[] second, int[] test) {
        TurnHost x = Kit.ran(0, first, second, test, Kit.op(Kit.INT, 7, 1), Kit.op(Kit.END, 7), Kit.op(Kit.INT, 7, 2), Kit.op(Kit.END, 7));
        Kit.due(what, x.term(0, Kit.REASON), Kit.AN_INT + (through ? 1 : 2));
        Kit.due(what + ": reductions", x.process(0, Kit.DONE), 5);
    }

    private static void leaves() {
        TurnHost x = Kit.ran(9, Kit.op(Kit.INT, 1, -5), Kit.op(Kit.ATOM, 2, 15), Kit.op(Kit.ATOM, 3, 0), Kit.op(Kit.MOVE, 4, 0),
            Kit.op(Kit.SELF, 5), Kit.op(Kit.INT, 6, 3), Kit.op(Kit.NIL, 6), Kit.op(Kit.INT, 7, Integer.MIN_VALUE), STOP_HERE);
        Kit.due("INT", x.term(0, 1), Kit.AN_INT + 95);
        Kit.due("ATOM 15", x.term(0, 2), Kit.EXIT);
        Kit.due("ATOM 0", x.term(0, 3), Kit.AN_ATOM);
        Kit.due("MOVE", x.term(0, 4), Kit.AN_INT + 9);
        Kit.due("MOVE leaves its source", x.term(0, 0), Kit.AN_INT + 9);
        Kit.due("SELF", x.term(0, 5), Kit.A_PID);
        Kit.due("NIL", x.term(0, 6), Kit.THE_NIL);
        Kit.due("the least INT", x.digest(0, 7), (7 * 31 + 1) * 31 + Integer.MIN_VALUE);
        Kit.due("RETURN without one ends with NORMAL", x.term(0, Kit.REASON), Kit.NORMAL);
        Kit.due("each counts one", x.process(0, Kit.DONE), 9);
    }

    private static void pairsAndTuples() {
        TurnHost x = Kit.ran(1, Kit.op(Kit.INT, 1, 2), Kit.op(Kit.PAIR, 2, 0, 1), Kit.op(Kit.TUPLE, 3, 2, 1), Kit.op(Kit.PAIR, 0, 0, 0), STOP_HERE);
        Kit.due("PAIR", x.term(0, 2), 4000300);
        Kit.due("PAIR's parts in order", x.digest(0, 2), digestOf(4, 7, 1, 2));
        Kit.due("TUPLE", x.term(0, 3), 5000500);
        Kit.due("PAIR onto its own part", x.term(0, 0), 4000300);
        Kit.due("the older pair holds what it held", x.digest(0, 2), digestOf(4, 7, 1, 2));
    }

    private static int digestOf(int sort, int s, int x, int y) {
        int head = s * 31 + sort + 1;
        int first = (head * 31 + 1) * 31 + x;
        return (first * 31 + 1) * 31 + y;
    }

    private static void weightAtItsEdge() {
        int[][] to15 = {Kit.op(Kit.PAIR, 1, 0, 0), Kit.op(Kit.PAIR, 1, 1, 1), Kit.op(Kit.TUPLE, 1, 1, 1)};
        TurnHost x = Kit.ran(1, to15[0], to15[1], to15[2], STOP_HERE);
        Kit.due("weight 15", x.term(0, 1), 5001500);
        Kit.due("weight 15 is no fault", x.term(0, Kit.REASON), Kit.NORMAL);
        faults("PAIR of weight 17", 4, to15[0], to15[1], to15[2], Kit.op(Kit.PAIR, 2, 1, 0));
        faults("TUPLE of weight 17", 4, to15[0], to15[1], to15[2], Kit.op(Kit.TUPLE, 2, 0, 1));
        TurnHost y = Kit.ran(1, to15[0], to15[1], to15[2], Kit.op(Kit.TUPLE, 1, 0, 1));
        Kit.due("what was too heavy is not set", y.term(0, 1), 5001500);
        TurnHost z = Kit.ran(1, Kit.op(Kit.PAIR, 1, 0, 0), Kit.op(Kit.PAIR, 1, 1, 0), Kit.op(Kit.PAIR, 1, 1, 0), Kit.op(Kit.PAIR, 1, 1, 0),
            Kit.op(Kit.PAIR, 1, 1, 0), Kit.op(Kit.PAIR, 1, 1, 0), Kit.op(Kit.PAIR, 1, 1, 0), Kit.op(Kit.PAIR, 1, 1, 0));
        Kit.due("seven deep", z.term(0, 1), 4001500);
        Kit.due("no eighth", z.process(0, Kit.DONE), 8);
        Kit.due("the eighth is a fault", z.term(0, Kit.REASON), Kit.FAULT);
    }

    private static void partsOfTerms() {
        TurnHost x = Kit.ran(1, Kit.op(Kit.INT, 1, 2), Kit.op(Kit.PAIR, 2, 0, 1), Kit.op(Kit.TUPLE, 3, 1, 2), Kit.op(Kit.FIRST, 4, 2),
            Kit.op(Kit.SECOND, 5, 2), Kit.op(Kit.FIRST, 6, 3), Kit.op(Kit.SECOND, 3, 3), STOP_HERE);
        Kit.due("FIRST of a pair", x.term(0, 4), Kit.AN_INT + 1);
        Kit.due("SECOND of a pair", x.term(0, 5), Kit.AN_INT + 2);
        Kit.due("FIRST of a tuple", x.term(0, 6), Kit.AN_INT + 2);
        Kit.due("SECOND of a tuple, onto it", x.digest(0, 3), x.digest(0, 2));
        for (int[] make : leafMakers()) {
            faults("FIRST of a leaf", 2, make, Kit.op(Kit.FIRST, 1, 0));
            faults("SECOND of a leaf", 2, make, Kit.op(Kit.SECOND, 1, 0));
        }
    }

    private static int[][] leafMakers() {
        return new int[][] {Kit.op(Kit.INT, 0, 1), Kit.op(Kit.ATOM, 0, 1), Kit.op(Kit.SELF, 0), Kit.op(Kit.NIL, 0)};
    }

    private static void sumsWrap() {
        int most = Integer.MAX_VALUE;
        TurnHost x = Kit.ran(most, Kit.op(Kit.INT, 1, 5), Kit.op(Kit.ADD, 2, 0, 1), Kit.op(Kit.SUB, 3, 1, 0), Kit.op(Kit.SUB, 4, 3, 0), Kit.op(Kit.ADD, 1, 1, 1), STOP_HERE);
        int head = (7 * 31 + 1) * 31;
        Kit.due("ADD wraps", x.digest(0, 2), head + (most + 5));
        Kit.due("SUB", x.digest(0, 3), head + (5 - most));
        Kit.due("SUB wraps", x.digest(0, 4), head + (5 - most - most));
        Kit.due("ADD onto itself", x.term(0, 1), Kit.AN_INT + 10);
        for (int[] make : new int[][] {Kit.op(Kit.ATOM, 1, 1), Kit.op(Kit.SELF, 1), Kit.op(Kit.NIL, 1), Kit.op(Kit.PAIR, 1, 0, 0), Kit.op(Kit.TUPLE, 1, 0, 0)}) {
            faults("ADD of an int and another", 2, make, Kit.op(Kit.ADD, 2, 0, 1));
            faults("ADD of another and an int", 2, make, Kit.op(Kit.ADD, 2, 1, 0));
            faults("SUB of an int and another", 2, make, Kit.op(Kit.SUB, 2, 0, 1));
            faults("SUB of another and an int", 2, make, Kit.op(Kit.SUB, 2, 1, 0));
            faults("LESS of an int and another", 2, make, Kit.op(Kit.LESS, 0, 1, 9));
            faults("LESS of another and an int", 2, make, Kit.op(Kit.LESS, 1, 0, 9));
        }
    }

    private static void less() {
        int[] test = Kit.op(Kit.LESS, 1, 2, 5);
        branch("1 < 2", true, Kit.op(Kit.INT, 1, 1), Kit.op(Kit.INT, 2, 2), test);
        branch("2 < 2", false, Kit.op(Kit.INT, 1, 2), Kit.op(Kit.INT, 2, 2), test);
        branch("3 < 2", false, Kit.op(Kit.INT, 1, 3), Kit.op(Kit.INT, 2, 2), test);
        branch("least < greatest", true, Kit.op(Kit.INT, 1, Integer.MIN_VALUE), Kit.op(Kit.INT, 2, Integer.MAX_VALUE), test);
        branch("greatest < least", false, Kit.op(Kit.INT, 1, Integer.MAX_VALUE), Kit.op(Kit.INT, 2, Integer.MIN_VALUE), test);
    }

    private static void same() {
        int[] test = Kit.op(Kit.SAME, 1, 2, 5);
        branch("equal ints", true, Kit.op(Kit.INT, 1, 777), Kit.op(Kit.INT, 2, 777), test);
        branch("other ints", false, Kit.op(Kit.INT, 1, 777), Kit.op(Kit.INT, 2, 778), test);
        branch("equal atoms", true, Kit.op(Kit.ATOM, 1, 3), Kit.op(Kit.ATOM, 2, 3), test);
        branch("other atoms", false, Kit.op(Kit.ATOM, 1, 3), Kit.op(Kit.ATOM, 2, 4), test);
        branch("int and atom", false, Kit.op(Kit.INT, 1, 3), Kit.op(Kit.ATOM, 2, 3), test);
        branch("int and pid", false, Kit.op(Kit.INT, 1, 0), Kit.op(Kit.SELF, 2), test);
        branch("atom and nil", false, Kit.op(Kit.ATOM, 1, 0), Kit.op(Kit.NIL, 2), test);
        branch("equal pids", true, Kit.op(Kit.SELF, 1), Kit.op(Kit.SELF, 2), test);
        branch("nil and nil", true, Kit.op(Kit.NIL, 1), Kit.op(Kit.NIL, 2), test);
        branch("pair and tuple", false, Kit.op(Kit.PAIR, 1, 0, 0), Kit.op(Kit.TUPLE, 2, 0, 0), test);
        branch("equal pairs", true, Kit.op(Kit.PAIR, 1, 0, 0), Kit.op(Kit.PAIR, 2, 0, 0), test);
        branch("other firsts", false, Kit.op(Kit.PAIR, 1, 3, 0), Kit.op(Kit.PAIR, 2, 0, 0), test);
        branch("other seconds", false, Kit.op(Kit.TUPLE, 1, 0, 3), Kit.op(Kit.TUPLE, 2, 0, 0), test);
        branch("pair and its part", false, Kit.op(Kit.PAIR, 1, 0, 0), Kit.op(Kit.MOVE, 2, 0), test);
    }

    private static void is() {
        int[][] makers = {Kit.op(Kit.INT, 1, 1), Kit.op(Kit.ATOM, 1, 1), Kit.op(Kit.SELF, 1), Kit.op(Kit.NIL, 1), Kit.op(Kit.PAIR, 1, 0, 0), Kit.op(Kit.TUPLE, 1, 0, 0)};
        for (int made = 0; made < 6; made++) {
            for (int sort = 0; sort < 6; sort++) {
                branch("IS " + made + " of sort " + sort, made == sort, Kit.op(Kit.NIL, 2), makers[made], Kit.op(Kit.IS, 1, sort, 5));
            }
        }
    }

    private static void jumpCallReturn() {
        TurnHost x = Kit.ran(0, Kit.op(Kit.CALL, 3), Kit.op(Kit.INT, 1, 1), Kit.op(Kit.JUMP, 6), Kit.op(Kit.CALL, 5), Kit.op(Kit.RETURN),
            Kit.op(Kit.RETURN), Kit.op(Kit.ADD, 2, 1, 1), Kit.op(Kit.RETURN));
        Kit.due("back behind the call", x.term(0, 1), Kit.AN_INT + 1);
        Kit.due("the jump", x.term(0, 2), Kit.AN_INT + 2);
        Kit.due("all reductions", x.process(0, Kit.DONE), 8);
        Kit.due("no return is left", x.process(0, Kit.RETURNS), 0);
        Kit.due("NORMAL", x.term(0, Kit.REASON), Kit.NORMAL);
        TurnHost y = Kit.host(50, Kit.op(Kit.JUMP, 40));
        y.begin(0, 0);
        Kit.due("a jump behind the code is one, no instruction one more", y.run(15), 2);
        Kit.due("the place stays there", y.process(0, Kit.PLACE), 40);
        Kit.due("both count", y.process(0, Kit.DONE), 2);
        Kit.due("FAULT", y.term(0, Kit.REASON), Kit.FAULT);
    }

    private static void sixReturns() {
        TurnHost x = Kit.host(50, Kit.op(Kit.CALL, 0));
        x.begin(0, 0);
        x.run(6);
        Kit.due("six returns", x.process(0, Kit.RETURNS), 6);
        Kit.due("are no fault", x.process(0, Kit.STATE), Kit.READY);
        x.run(1);
        Kit.due("a seventh is one", x.term(0, Kit.REASON), Kit.FAULT);
        Kit.due("the returns are still there", x.process(0, Kit.RETURNS), 6);
        Kit.due("the place is behind it", x.process(0, Kit.PLACE), 1);
    }

    private static void faultsLeaveThePlaceBehindThem() {
        faults("SEND to an int", 1, Kit.op(Kit.SEND, 0, 0));
        faults("SEND to nil", 1, Kit.op(Kit.SEND, 1, 0));
        faults("SEND to an atom", 2, Kit.op(Kit.ATOM, 1, 0), Kit.op(Kit.SEND, 1, 0));
        faults("LINK an int", 1, Kit.op(Kit.LINK, 0));
        faults("LINK an atom", 2, Kit.op(Kit.ATOM, 1, 0), Kit.op(Kit.LINK, 1));
        faults("STOP an int", 1, Kit.op(Kit.STOP, 0));
        faults("STOP a pair", 2, Kit.op(Kit.PAIR, 1, 0, 0), Kit.op(Kit.STOP, 1));
        faults("TAKE without a message", 1, Kit.op(Kit.TAKE));
    }
}
