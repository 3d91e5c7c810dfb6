import java.util.Random;
import java.util.TreeMap;

/** All promises: runs of up to 512 calls, drawn with fixed seeds, must be answered as the model answers them. */
public final class ModelTest {
    private static final int RUNS = 1500;
    private static final int CALLS = 512;

    /** What the runs must have come by, so that agreement says something. */
    private static final String[] MUST_BE_SEEN = {
        "ended by a signal", "end with several links", "heavy notice", "notice", "NORMAL passes", "signal to an ended one",
        "post to a full one", "post to a full one that waits", "post to an ended one", "woken", "waits", "turn over", "no instruction", "link with an ended one",
        "fault in 5", "fault in 6", "fault in 7", "fault in 8", "fault in 9", "fault in 10", "fault in 11", "fault in 15",
        "fault in 17", "fault in 19", "fault in 22", "fault in 23", "fault in 26",
    };

    /** One that passes over its mail and waits behind it; one that traps and hears of the heavy end of another; a chain of linked ones. */
    private static final int[][] SNIPPET = {
        Kit.op(Kit.PEEK, 3, 2), Kit.op(Kit.NEXT, 0), Kit.op(Kit.WAIT, 0),
        Kit.op(Kit.TRAP, 1), Kit.op(Kit.SPAWN, 1, 7, 0), Kit.op(Kit.LINK, 1), Kit.op(Kit.WAIT, 0),
        Kit.op(Kit.PAIR, 0, 0, 0), Kit.op(Kit.TUPLE, 0, 0, 0), Kit.op(Kit.PAIR, 0, 0, 0), Kit.op(Kit.END, 0),
        Kit.op(Kit.SPAWN, 1, 11, 0), Kit.op(Kit.LINK, 1), Kit.op(Kit.SPAWN, 1, 3, 0), Kit.op(Kit.LINK, 1), Kit.op(Kit.SEND, 1, 1), Kit.op(Kit.WAIT, 17), Kit.op(Kit.END, 0),
    };

    private final Random random;
    private final int run;
    private final boolean withSnippet;
    private final TurnHost host;
    private final Model model;

    private ModelTest(int run, TreeMap<String, Integer> seen) {
        // Seeds that stand near one another draw nearly the same numbers at first.
        this.random = new Random(run * 0x9E3779B97F4A7C15L);
        this.run = run;
        this.withSnippet = run % 3 == 0;
        int quota = random.nextInt(4) == 0 ? random.nextInt(60) - 4 : 1 + random.nextInt(8);
        this.host = new TurnHost(quota);
        this.model = new Model(quota, seen);
    }

    public static void main(String[] args) {
        TreeMap<String, Integer> seen = new TreeMap<>();
        for (int run = 0; run < RUNS; run++) {
            new ModelTest(run, seen).go();
        }
        for (int operation = 0; operation < 27; operation++) {
            Kit.due("operation " + operation + " was done", seen.containsKey("done " + operation), true);
        }
        for (String what : MUST_BE_SEEN) {
            Kit.due("was seen: " + what, seen.containsKey(what), true);
        }
        Kit.finish();
    }

    private void go() {
        int codeSize = 18 + random.nextInt(31);
        int given = withSnippet ? SNIPPET.length : 0;
        for (int k = 0; k < given; k++) {
            addBoth(SNIPPET[k][0], SNIPPET[k][1], SNIPPET[k][2], SNIPPET[k][3]);
        }
        for (int k = given; k < codeSize; k++) {
            add(codeSize);
        }
        for (int call = codeSize; call < CALLS; call++) {
            call(random.nextInt(100), codeSize);
            if (call % 16 == 0) {
                compareAll();
            }
        }
        compareAll();
    }

    private void call(int draw, int codeSize) {
        if (draw < 50) {
            int n = 1 + random.nextInt(15);
            Kit.due(run + ": run " + n, host.run(n), model.run(n));
        } else if (draw < 65) {
            int l = random.nextInt(withSnippet ? SNIPPET.length : codeSize + 1);
            int n = number();
            Kit.due(run + ": begin " + l, host.begin(l, n), model.begin(l, n));
        } else if (draw < 85) {
            int p = random.nextInt(1 + random.nextInt(12));
            int n = number();
            Kit.due(run + ": tell " + p, host.tell(p, n), model.tell(p, n));
        } else if (draw < (withSnippet ? 86 : 88)) {
            boolean code = random.nextInt(6) == 0;
            Kit.due(run + ": clear", host.clear(code), model.clear(code));
        } else if (draw < 96) {
            add(codeSize);
        } else {
            wild();
        }
    }

    private int number() {
        return random.nextInt(5) == 0 ? random.nextInt() : random.nextInt(4);
    }

    private void add(int codeSize) {
        int operation = random.nextInt(3) == 0 ? usual() : random.nextInt(27);
        int[] n = new int[3];
        for (int k = 0; k < 3; k++) {
            n[k] = random.nextInt(4);
        }
        int l = random.nextInt(codeSize);
        switch (operation) {
            case 1 -> n[1] = random.nextInt(16);
            case 11, 12 -> n[2] = l;
            case 13 -> {
                n[1] = random.nextInt(6);
                n[2] = l;
            }
            case 14, 15, 20, 21 -> n[0] = l;
            case 18, 22 -> n[1] = l;
            default -> { }
        }
        addBoth(operation, n[0], n[1], n[2]);
    }

    /** Operations that make a process reach another; others come often enough by themselves. */
    private int usual() {
        int[] some = {3, 5, 6, 17, 21, 21, 22, 22, 23, 23, 24, 25, 26, 18, 20};
        return some[random.nextInt(some.length)];
    }

    private void addBoth(int operation, int a, int b, int c) {
        Kit.due(run + ": add " + operation, host.add(operation, a, b, c), model.add(operation, a, b, c));
    }

    /** Arguments far from any that have a meaning. */
    private void wild() {
        int[] w = new int[4];
        for (int k = 0; k < 4; k++) {
            w[k] = random.nextInt(3) == 0 ? random.nextInt() : random.nextInt(64) - 8;
        }
        addBoth(w[0], w[1], w[2], w[3]);
        Kit.due(run + ": begin " + w[0], host.begin(w[0], w[1]), model.begin(w[0], w[1]));
        Kit.due(run + ": run " + w[1], host.run(w[1]), model.run(w[1]));
        Kit.due(run + ": tell " + w[2], host.tell(w[2], w[3]), model.tell(w[2], w[3]));
        Kit.due(run + ": process", host.process(w[0], w[1]), model.process(w[0], w[1]));
        Kit.due(run + ": queue", host.queue(w[2]), model.queue(w[2]));
        Kit.due(run + ": term", host.term(w[2], w[3]), model.term(w[2], w[3]));
        Kit.due(run + ": digest", host.digest(w[1], w[3]), model.digest(w[1], w[3]));
    }

    private void compareAll() {
        Kit.due(run + ": processes", host.processes(), model.processes());
        for (int p = 0; p <= 12; p++) {
            Kit.due(run + ": queue " + p, host.queue(p), model.queue(p));
            for (int what = 0; what <= 8; what++) {
                Kit.due(run + ": process " + p + " " + what, host.process(p, what), model.process(p, what));
            }
            for (int where = 0; where <= 21; where++) {
                Kit.due(run + ": term " + p + " " + where, host.term(p, where), model.term(p, where));
                Kit.due(run + ": digest " + p + " " + where, host.digest(p, where), model.digest(p, where));
            }
        }
    }
}
