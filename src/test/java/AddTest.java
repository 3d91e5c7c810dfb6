/** Promise 2. */
public final class AddTest {
    public static void main(String[] args) {
        for (int operation = 0; operation < 27; operation++) {
            for (int which = 0; which < 3; which++) {
                edges(operation, which, Kit.limit(operation, which));
            }
        }
        theOthersDoNotHelp();
        numbersThatItDoesNotHave();
        wrongOperations();
        atMost48();
        refusedLeavesNoTrace();
        codeGrowsBelowARunningProcess();
        Kit.finish();
    }

    /** "a register not 0 .. 7, an atom not 0 .. 15, a sort not 0 .. 5, l not 0 .. 47" */
    private static void edges(int operation, int which, int limit) {
        for (int value : Kit.FAR_OUT) {
            one(operation, which, value, limit == 0);
        }
        one(operation, which, 0, true);
        one(operation, which, 1, true);
        if (limit > 0) {
            one(operation, which, limit - 1, true);
            one(operation, which, limit, false);
            one(operation, which, limit + 1, false);
            one(operation, which, 256, false);
        } else {
            one(operation, which, 48, true);
            one(operation, which, 99, true);
        }
    }

    private static void one(int operation, int which, int value, boolean taken) {
        int[] n = {0, 0, 0};
        n[which] = value;
        TurnHost x = new TurnHost(8);
        x.add(Kit.JUMP, 0, 0, 0);
        Kit.due("add(" + operation + ", " + n[0] + ", " + n[1] + ", " + n[2] + ")", x.add(operation, n[0], n[1], n[2]), taken ? 1 : -1);
        Kit.due("the number after it", x.add(Kit.JUMP, 0, 0, 0), taken ? 2 : 1);
    }

    /** "or one of its numbers is not as told": one is enough, with all the others at their last good one */
    private static void theOthersDoNotHelp() {
        for (int operation = 0; operation < 27; operation++) {
            int[] last = new int[3];
            for (int which = 0; which < 3; which++) {
                last[which] = Math.max(0, Kit.limit(operation, which) - 1);
            }
            TurnHost x = new TurnHost(8);
            for (int which = 0; which < 3; which++) {
                if (Kit.limit(operation, which) > 0) {
                    int[] n = last.clone();
                    n[which]++;
                    Kit.due("operation " + operation + ", number " + which, x.add(operation, n[0], n[1], n[2]), -1);
                }
            }
            Kit.due("operation " + operation + ", the last good ones", x.add(operation, last[0], last[1], last[2]), 0);
        }
    }

    /** "Numbers that it does not have count for nothing": the instruction does the same, whatever they are */
    private static void numbersThatItDoesNotHave() {
        for (int operation = 0; operation < 27; operation++) {
            String due = done(operation, 1);
            for (int value : Kit.FAR_OUT) {
                Kit.due("operation " + operation + " with " + value, done(operation, value), due);
            }
        }
    }

    /** All that can be asked for after the operation, done with that for each number that it does not have, and 1 for those that it has. */
    private static String done(int operation, int unused) {
        int[] n = {1, 1, 1};
        for (int which = 0; which < 3; which++) {
            boolean anyInt = operation == Kit.INT && which == 1 || operation == Kit.TRAP && which == 0;
            if (Kit.limit(operation, which) == 0 && !anyInt) {
                n[which] = unused;
            }
        }
        TurnHost x = Kit.host(8, Kit.op(Kit.SELF, 1), Kit.op(operation, n[0], n[1], n[2]), Kit.op(Kit.JUMP, 2));
        x.begin(0, 4);
        x.tell(0, 5);
        x.run(4);
        return Kit.state(x);
    }

    /** "-1, refused, if ... the operation is not 0 .. 26" */
    private static void wrongOperations() {
        TurnHost x = new TurnHost(8);
        for (int operation : Kit.FAR_OUT) {
            Kit.due("operation " + operation, x.add(operation, 0, 0, 0), -1);
        }
        Kit.due("operation 27", x.add(27, 0, 0, 0), -1);
        Kit.due("operation 28", x.add(28, 0, 0, 0), -1);
        Kit.due("operation 26", x.add(26, 0, 0, 0), 0);
    }

    /** "-1, refused, if there are 48" */
    private static void atMost48() {
        TurnHost x = new TurnHost(50);
        for (int k = 0; k < 48; k++) {
            Kit.due("instruction " + k, x.add(Kit.INT, 0, k, 0), k);
        }
        Kit.due("the 49th", x.add(Kit.INT, 0, 77, 0), -1);
        Kit.due("the 50th", x.add(Kit.RETURN, 0, 0, 0), -1);
        x.begin(46, 0);
        Kit.due("the last two, and none behind them", Kit.runOut(x), 3);
        Kit.due("the last one's int", x.term(0, 0), Kit.AN_INT + 47);
        Kit.due("the place behind the code", x.process(0, Kit.PLACE), 48);
        Kit.due("FAULT there", x.term(0, Kit.REASON), Kit.FAULT);
    }

    /** "A call that is refused changes nothing": no instruction, not even in part */
    private static void refusedLeavesNoTrace() {
        TurnHost x = new TurnHost(8);
        x.add(Kit.INT, 1, 5, 0);
        x.add(Kit.INT, 8, 6, 0);
        x.add(27, 1, 7, 0);
        x.begin(0, 0);
        Kit.due("one instruction, then none", Kit.runOut(x), 2);
        Kit.due("the int of the one", x.term(0, 1), Kit.AN_INT + 5);
    }

    private static void codeGrowsBelowARunningProcess() {
        TurnHost x = Kit.host(8, Kit.op(Kit.INT, 1, 5));
        x.begin(0, 0);
        x.run(1);
        x.add(Kit.INT, 1, 6, 0);
        Kit.due("the one added since", x.run(1), 1);
        Kit.due("was done", x.term(0, 1), Kit.AN_INT + 6);
    }
}
