/** The edges that the first paragraph of 'Terms' names; above each test the words that it tests. */
public final class TermEdgesTest {
    private static final int EQUAL = 1;
    private static final int OTHER = 2;

    public static void main(String[] args) {
        atomsAre0To15();
        theFourNamedAtoms();
        leavesWeigh1();
        weightsAddUp();
        noTermWeighsMoreThan15();
        equalOnlyOfOneSort();
        equalNumbers();
        equalInBothTerms();
        Kit.finish();
    }

    /** "an ATOM 0 .. 15" */
    private static void atomsAre0To15() {
        for (int atom = 0; atom <= 15; atom++) {
            TurnHost x = Kit.ran(0, Kit.op(Kit.ATOM, 1, atom), Kit.op(Kit.END, 1));
            Kit.due("the atom " + atom, x.term(0, Kit.REASON), Kit.AN_ATOM + atom);
        }
        TurnHost x = new TurnHost(8);
        Kit.due("no atom -1", x.add(Kit.ATOM, 0, -1, 0), -1);
        Kit.due("no atom 16", x.add(Kit.ATOM, 0, 16, 0), -1);
    }

    /** "15 is EXIT, 14 NORMAL, 13 FAULT, 12 KILLED" */
    private static void theFourNamedAtoms() {
        TurnHost x = Kit.ran(0, Kit.op(Kit.TRAP, 1), Kit.op(Kit.SELF, 1), Kit.op(Kit.STOP, 1), Kit.op(Kit.PEEK, 2, 9), Kit.op(Kit.FIRST, 3, 2),
            Kit.op(Kit.SECOND, 4, 2), Kit.op(Kit.SECOND, 4, 4), Kit.op(Kit.RETURN));
        Kit.due("EXIT", x.term(0, 3), 1000115);
        Kit.due("KILLED", x.term(0, 4), 1000112);
        Kit.due("NORMAL", x.term(0, Kit.REASON), 1000114);
        Kit.due("FAULT", Kit.ran(0, Kit.op(Kit.TAKE)).term(0, Kit.REASON), 1000113);
    }

    /** "of the others 1" */
    private static void leavesWeigh1() {
        TurnHost x = Kit.ran(Integer.MAX_VALUE, Kit.op(Kit.ATOM, 1, 15), Kit.op(Kit.SELF, 2), Kit.op(Kit.NIL, 3), Kit.op(Kit.RETURN));
        for (int r = 0; r < 4; r++) {
            Kit.due("the weight of register " + r, x.term(0, r) % 1000000 / 100, 1);
        }
    }

    /** "The WEIGHT of a pair or tuple is 1 more than the sum of its two terms'" */
    private static void weightsAddUp() {
        for (int first = 1; first <= 15; first += 2) {
            for (int second = 1; first + second <= 14; second += 2) {
                int due = 100 * (1 + first + second);
                Kit.due("PAIR of " + first + " and " + second, joined(Kit.PAIR, first, second).term(0, 3), 4000000 + due);
                Kit.due("TUPLE of " + first + " and " + second, joined(Kit.TUPLE, first, second).term(0, 3), 5000000 + due);
            }
        }
    }

    /** "no term weighs more than 15", and "a term would weigh too much: the process ends with FAULT" */
    private static void noTermWeighsMoreThan15() {
        for (int first = 1; first <= 15; first += 2) {
            for (int second = 1; second <= 15; second += 2) {
                boolean fits = 1 + first + second <= 15;
                for (int operation = Kit.PAIR; operation <= Kit.TUPLE; operation++) {
                    TurnHost x = joined(operation, first, second);
                    String what = "operation " + operation + " of " + first + " and " + second;
                    Kit.due(what, x.term(0, Kit.REASON), fits ? Kit.NORMAL : Kit.FAULT);
                    Kit.due(what + ": whether it is set", x.term(0, 3) != Kit.THE_NIL, fits);
                    Kit.due(what + ": the first stays", x.term(0, 1) % 1000000, 100 * first + (first == 1 ? 4 : 0));
                    Kit.due(what + ": the second stays", x.term(0, 2) % 1000000, 100 * second + (second == 1 ? 4 : 0));
                }
            }
        }
    }

    private static TurnHost joined(int operation, int first, int second) {
        return Kit.ranParts(4, Kit.chain(1, first), Kit.chain(2, second), Kit.one(operation, 3, 1, 2), Kit.one(Kit.RETURN));
    }

    /** What SAME finds of registers 1 and 2, which the two parts make. */
    private static int same(int[][] first, int[][] second) {
        int test = first.length + second.length;
        TurnHost x = Kit.ranParts(0, first, second, Kit.one(Kit.SAME, 1, 2, test + 3), Kit.one(Kit.INT, 7, EQUAL), Kit.one(Kit.END, 7), Kit.one(Kit.INT, 7, OTHER), Kit.one(Kit.END, 7));
        return x.term(0, Kit.REASON) - Kit.AN_INT;
    }

    /** Makes register r one of six terms, of the six sorts, in which every number is 0. */
    private static int[][] ofSort(int sort, int r) {
        int[][] makers = {Kit.op(Kit.INT, r, 0), Kit.op(Kit.ATOM, r, 0), Kit.op(Kit.SELF, r), Kit.op(Kit.NIL, r), Kit.op(Kit.PAIR, r, 0, 0), Kit.op(Kit.TUPLE, r, 0, 0)};
        return new int[][] {makers[sort]};
    }

    /** "EQUAL if they are of one sort" */
    private static void equalOnlyOfOneSort() {
        for (int first = 0; first < 6; first++) {
            for (int second = 0; second < 6; second++) {
                int got = same(ofSort(first, 1), ofSort(second, 2));
                Kit.due("sorts " + first + " and " + second, got, first == second ? EQUAL : OTHER);
            }
        }
    }

    /** "their numbers ... are equal": the whole number, not what term shows of it */
    private static void equalNumbers() {
        int[] numbers = {0, 1, -1, 100, -100, 256, 1 << 16, Integer.MAX_VALUE, Integer.MIN_VALUE};
        for (int first : numbers) {
            for (int second : numbers) {
                int got = same(Kit.one(Kit.INT, 1, first), Kit.one(Kit.INT, 2, second));
                Kit.due("the ints " + first + " and " + second, got, first == second ? EQUAL : OTHER);
            }
        }
        for (int first = 0; first <= 15; first++) {
            Kit.due("the atoms " + first + " and 15", same(Kit.one(Kit.ATOM, 1, first), Kit.one(Kit.ATOM, 2, 15)), first == 15 ? EQUAL : OTHER);
        }
        int[][] child = {Kit.op(Kit.SPAWN, 1, 47, 0)};
        Kit.due("two pids", same(child, Kit.one(Kit.SELF, 2)), OTHER);
        Kit.due("a pid and itself", same(child, Kit.one(Kit.MOVE, 2, 1)), EQUAL);
    }

    /** A term of weight 15 around the int n, which is its last part on the right or on the left, seven deep. */
    private static int[][] deep(int r, int n, boolean right, int operation) {
        int[][] outer = right ? Kit.times(6, Kit.PAIR, r, 0, r) : Kit.times(6, Kit.PAIR, r, r, 0);
        return Kit.join(Kit.one(Kit.INT, r, n), Kit.one(operation, r, r, r), outer);
    }

    /** "both of their terms are equal", down to the deepest of the heaviest */
    private static void equalInBothTerms() {
        for (int side = 0; side < 2; side++) {
            boolean right = side == 1;
            Kit.due("made apart", same(deep(1, 5, right, Kit.PAIR), deep(2, 5, right, Kit.PAIR)), EQUAL);
            Kit.due("another int in the depth", same(deep(1, 5, right, Kit.PAIR), deep(2, 6, right, Kit.PAIR)), OTHER);
            Kit.due("another sort in the depth", same(deep(1, 5, right, Kit.PAIR), deep(2, 5, right, Kit.TUPLE)), OTHER);
            Kit.due("the other side", same(deep(1, 5, right, Kit.PAIR), deep(2, 5, !right, Kit.PAIR)), OTHER);
        }
        Kit.due("one is part of the other", same(Kit.chain(1, 13), Kit.chain(2, 15)), OTHER);
        Kit.due("the firsts alone", same(Kit.one(Kit.PAIR, 1, 0, 3), Kit.one(Kit.PAIR, 2, 0, 0)), OTHER);
        Kit.due("the seconds alone", same(Kit.one(Kit.PAIR, 1, 3, 0), Kit.one(Kit.PAIR, 2, 0, 0)), OTHER);
    }
}
