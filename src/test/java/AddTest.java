/** Promise 2. */
public final class AddTest {
    /** To an operation its three numbers: r a register, t an atom, s a sort, l an instruction, . any or none. */
    private static final String[] NUMBERS = {
        "r..", "rt.", "rr.", "r..", "r..", "rrr", "rrr", "rr.", "rr.", "rrr", "rrr",
        "rrl", "rrl", "rsl", "l..", "l..", "...",
        "rr.", "rl.", "...", "l..", "l..",
        "rlr", "r..", "...", "r..", "r..",
    };

    public static void main(String[] args) {
        for (int operation = 0; operation < NUMBERS.length; operation++) {
            for (int which = 0; which < 3; which++) {
                edges(operation, which, limit(NUMBERS[operation].charAt(which)));
            }
        }
        wrongOperations();
        atMost48();
        refusedLeavesNoTrace();
        codeGrowsBelowARunningProcess();
        Kit.finish();
    }

    private static int limit(char kind) {
        switch (kind) {
            case 'r': return 8;
            case 't': return 16;
            case 's': return 6;
            case 'l': return 48;
            default: return 0;
        }
    }

    private static void edges(int operation, int which, int limit) {
        for (int value : Kit.FAR_OUT) {
            one(operation, which, value, limit == 0);
        }
        one(operation, which, 0, true);
        one(operation, which, 1, true);
        if (limit > 0) {
            one(operation, which, limit - 1, true);
            one(operation, which, limit, false);
            one(operation, which, limit + 1, false);
            one(operation, which, 256, false);
        } else {
            one(operation, which, 48, true);
            one(operation, which, 99, true);
        }
    }

    private static void one(int operation, int which, int value, boolean taken) {
        int[] n = {0, 0, 0};
        n[which] = value;
        TurnHost x = new TurnHost(8);
        x.add(Kit.JUMP, 0, 0, 0);
        Kit.due("add(" + operation + ", " + n[0] + ", " + n[1] + ", " + n[2] + ")", x.add(operation, n[0], n[1], n[2]), taken ? 1 : -1);
        Kit.due("the number after it", x.add(Kit.JUMP, 0, 0, 0), taken ? 2 : 1);
    }

    private static void wrongOperations() {
        TurnHost x = new TurnHost(8);
        for (int operation : Kit.FAR_OUT) {
            Kit.due("operation " + operation, x.add(operation, 0, 0, 0), -1);
        }
        Kit.due("operation 27", x.add(27, 0, 0, 0), -1);
        Kit.due("operation 28", x.add(28, 0, 0, 0), -1);
        Kit.due("operation 26", x.add(26, 0, 0, 0), 0);
    }

    private static void atMost48() {
        TurnHost x = new TurnHost(50);
        for (int k = 0; k < 48; k++) {
            Kit.due("instruction " + k, x.add(Kit.INT, 0, k, 0), k);
        }
        Kit.due("the 49th", x.add(Kit.INT, 0, 77, 0), -1);
        Kit.due("the 50th", x.add(Kit.RETURN, 0, 0, 0), -1);
        x.begin(46, 0);
        Kit.due("the last two, and none behind them", Kit.runOut(x), 3);
        Kit.due("the last one's int", x.term(0, 0), Kit.AN_INT + 47);
        Kit.due("the place behind the code", x.process(0, Kit.PLACE), 48);
        Kit.due("FAULT there", x.term(0, Kit.REASON), Kit.FAULT);
    }

    private static void refusedLeavesNoTrace() {
        TurnHost x = new TurnHost(8);
        x.add(Kit.INT, 1, 5, 0);
        x.add(Kit.INT, 8, 6, 0);
        x.add(27, 1, 7, 0);
        x.begin(0, 0);
        Kit.due("one instruction, then none", Kit.runOut(x), 2);
        Kit.due("the int of the one", x.term(0, 1), Kit.AN_INT + 5);
    }

    private static void codeGrowsBelowARunningProcess() {
        TurnHost x = Kit.host(8, Kit.op(Kit.INT, 1, 5));
        x.begin(0, 0);
        x.run(1);
        x.add(Kit.INT, 1, 6, 0);
        Kit.due("the one added since", x.run(1), 1);
        Kit.due("was done", x.term(0, 1), Kit.AN_INT + 6);
    }
}
