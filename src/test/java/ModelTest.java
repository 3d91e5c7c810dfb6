import java.util.Random;
import java.util.TreeMap;

/** All promises: runs of 512 calls, as many as an object is used for, drawn with fixed seeds, must be answered as the model answers them. */
public final class ModelTest {
    private static final int RUNS = 12000;
    private static final int CALLS = 512;

    /** What the runs must have come by, so that agreement says something. */
    private static final String[] MUST_BE_SEEN = {
        "ended by a signal", "end with several links", "heavy notice", "notice", "NORMAL passes", "signal to an ended one",
        "post to a full one", "post to a full one that waits", "post to an ended one", "woken", "waits", "turn over", "no instruction", "link with an ended one",
        "fault in 5", "fault in 6", "fault in 7", "fault in 8", "fault in 9", "fault in 10", "fault in 11", "fault in 15",
        "fault in 17", "fault in 19", "fault in 22", "fault in 23", "fault in 26",
    };

    /** One that passes over its mail and waits behind it; one that traps and hears of the heavy end of another; a chain of linked ones. */
    private static final int[][] NEWS = {
        Kit.op(Kit.PEEK, 3, 2), Kit.op(Kit.NEXT, 0), Kit.op(Kit.WAIT, 0),
        Kit.op(Kit.TRAP, 1), Kit.op(Kit.SPAWN, 1, 7, 0), Kit.op(Kit.LINK, 1), Kit.op(Kit.WAIT, 0),
        Kit.op(Kit.PAIR, 0, 0, 0), Kit.op(Kit.TUPLE, 0, 0, 0), Kit.op(Kit.PAIR, 0, 0, 0), Kit.op(Kit.END, 0),
        Kit.op(Kit.SPAWN, 1, 11, 0), Kit.op(Kit.LINK, 1), Kit.op(Kit.SPAWN, 1, 3, 0), Kit.op(Kit.LINK, 1), Kit.op(Kit.SEND, 1, 1), Kit.op(Kit.WAIT, 17), Kit.op(Kit.END, 0),
    };

    /** One that takes the messages that are greater than its register 0, in whatever order, and passes over the others. */
    private static final int[][] CHOICE = {
        Kit.op(Kit.PEEK, 1, 8), Kit.op(Kit.IS, 1, 0, 7), Kit.op(Kit.LESS, 0, 1, 7), Kit.op(Kit.TAKE), Kit.op(Kit.SUB, 2, 0, 1), Kit.op(Kit.PAIR, 3, 1, 2), Kit.op(Kit.JUMP, 0),
        Kit.op(Kit.NEXT, 0), Kit.op(Kit.PAIR, 4, 1, 0), Kit.op(Kit.SAME, 3, 4, 11), Kit.op(Kit.RETURN), Kit.op(Kit.WAIT, 0),
    };

    /** Those that do as they are told: 1 spawns one that links itself with its maker, 2 is a link with the first, 3 traps; others end it. */
    private static final int[][] ORDERS = {
        Kit.op(Kit.IS, 0, 4, 5), Kit.op(Kit.FIRST, 4, 0), Kit.op(Kit.SECOND, 5, 0), Kit.op(Kit.LINK, 4), Kit.op(Kit.JUMP, 6), Kit.op(Kit.SELF, 5),
        Kit.op(Kit.SELF, 1), Kit.op(Kit.PAIR, 6, 1, 5), Kit.op(Kit.WAIT, 9), Kit.op(Kit.PEEK, 3, 8), Kit.op(Kit.TAKE),
        Kit.op(Kit.INT, 2, 1), Kit.op(Kit.SAME, 3, 2, 15), Kit.op(Kit.SPAWN, 2, 0, 6), Kit.op(Kit.JUMP, 8),
        Kit.op(Kit.INT, 2, 2), Kit.op(Kit.SAME, 3, 2, 19), Kit.op(Kit.LINK, 5), Kit.op(Kit.JUMP, 8),
        Kit.op(Kit.INT, 2, 3), Kit.op(Kit.SAME, 3, 2, 23), Kit.op(Kit.TRAP, 1), Kit.op(Kit.JUMP, 8), Kit.op(Kit.IS, 3, 0, 8), Kit.op(Kit.END, 3),
    };

    private static final int[][][] GIVEN = {NEWS, CHOICE, ORDERS, {}};

    private final Random random;
    private final int run;
    private final int[][] given;
    private final TurnHost host;
    private final Model model;
    private int calls;

    private ModelTest(int run, TreeMap<String, Integer> seen) {
        // Seeds that stand near one another draw nearly the same numbers at first.
        this.random = new Random(run * 0x9E3779B97F4A7C15L);
        this.run = run;
        this.given = GIVEN[run % GIVEN.length];
        int quota = random.nextInt(4) == 0 ? random.nextInt(60) - 4 : 1 + random.nextInt(8);
        this.host = new TurnHost(quota);
        this.model = new Model(quota, seen);
    }

    public static void main(String[] args) {
        TreeMap<String, Integer> seen = new TreeMap<>();
        for (int run = 0; run < RUNS; run++) {
            new ModelTest(run, seen).go();
        }
        for (int operation = 0; operation < 27; operation++) {
            Kit.due("operation " + operation + " was done", seen.containsKey("done " + operation), true);
        }
        for (String what : MUST_BE_SEEN) {
            Kit.due("was seen: " + what, seen.containsKey(what), true);
        }
        Kit.finish();
    }

    private void go() {
        int codeSize = 25 + random.nextInt(24);
        for (int[] i : given) {
            addBoth(i[0], i[1], i[2], i[3]);
        }
        for (int k = given.length; k < codeSize; k++) {
            add(codeSize);
        }
        // Runs that ask little come further; those that ask much see sooner what went wrong.
        int asks = random.nextInt(4);
        while (calls < CALLS - 60) {
            call(random.nextInt(100), codeSize);
            for (int k = 0; k < asks; k++) {
                ask();
            }
        }
        while (calls < CALLS) {
            ask();
        }
    }

    /** One call made to both. */
    private void same(String what, int got, int want) {
        calls++;
        Kit.due("run " + run + ", call " + calls + ": " + what, got, want);
    }

    private void call(int draw, int codeSize) {
        if (draw < 50) {
            int n = 1 + random.nextInt(15);
            same("run", host.run(n), model.run(n));
        } else if (draw < 65) {
            int l = given == ORDERS || given == CHOICE ? 0 : random.nextInt(given == NEWS ? NEWS.length : codeSize + 1);
            int n = number();
            same("begin", host.begin(l, n), model.begin(l, n));
        } else if (draw < 85) {
            int p = random.nextInt(1 + random.nextInt(12));
            int n = number();
            same("tell", host.tell(p, n) ? 1 : 0, model.tell(p, n) ? 1 : 0);
        } else if (draw < (given.length > 0 ? 86 : 88)) {
            boolean code = random.nextInt(6) == 0;
            same("clear", host.clear(code), model.clear(code));
        } else if (draw < 96) {
            add(codeSize);
        } else {
            wild();
        }
    }

    private void ask() {
        int p = random.nextInt(model.processes() + 1);
        switch (random.nextInt(6)) {
            case 0, 1 -> {
                int what = random.nextInt(9);
                same("process " + p + " " + what, host.process(p, what), model.process(p, what));
            }
            case 2 -> {
                int where = random.nextInt(22);
                same("term " + p + " " + where, host.term(p, where), model.term(p, where));
            }
            case 3, 4 -> {
                int where = random.nextInt(3) == 0 ? random.nextInt(22) : random.nextInt(13);
                same("digest " + p + " " + where, host.digest(p, where), model.digest(p, where));
            }
            default -> {
                int k = random.nextInt(1 + random.nextInt(13));
                same("queue " + k, host.queue(k), model.queue(k));
            }
        }
    }

    private int number() {
        return random.nextInt(5) == 0 ? random.nextInt() : random.nextInt(4);
    }

    private void add(int codeSize) {
        int operation = random.nextInt(3) == 0 ? usual() : random.nextInt(27);
        int[] n = new int[3];
        for (int k = 0; k < 3; k++) {
            n[k] = random.nextInt(4);
        }
        int l = random.nextInt(codeSize);
        switch (operation) {
            case 0 -> n[1] = number();
            case 1 -> n[1] = random.nextInt(16);
            case 11, 12 -> n[2] = l;
            case 13 -> {
                n[1] = random.nextInt(6);
                n[2] = l;
            }
            case 14, 15, 20, 21 -> n[0] = l;
            case 18, 22 -> n[1] = l;
            default -> { }
        }
        addBoth(operation, n[0], n[1], n[2]);
    }

    /** Operations that make a process reach another; others come often enough by themselves. */
    private int usual() {
        int[] some = {3, 5, 6, 17, 21, 21, 22, 22, 23, 23, 24, 25, 26, 18, 20};
        return some[random.nextInt(some.length)];
    }

    private void addBoth(int operation, int a, int b, int c) {
        same("add", host.add(operation, a, b, c), model.add(operation, a, b, c));
    }

    /** Arguments far from any that have a meaning. */
    private void wild() {
        int[] w = new int[4];
        for (int k = 0; k < 4; k++) {
            w[k] = random.nextInt(3) == 0 ? random.nextInt() : random.nextInt(64) - 8;
        }
        addBoth(w[0], w[1], w[2], w[3]);
        same("begin", host.begin(w[0], w[1]), model.begin(w[0], w[1]));
        same("run", host.run(w[1]), model.run(w[1]));
        same("tell", host.tell(w[2], w[3]) ? 1 : 0, model.tell(w[2], w[3]) ? 1 : 0);
        same("process", host.process(w[0], w[1]), model.process(w[0], w[1]));
        same("queue", host.queue(w[2]), model.queue(w[2]));
        same("term", host.term(w[2], w[3]), model.term(w[2], w[3]));
        same("digest", host.digest(w[1], w[3]), model.digest(w[1], w[3]));
        same("processes", host.processes(), model.processes());
    }
}
