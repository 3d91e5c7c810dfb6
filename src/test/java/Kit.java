/** What the tests share: the operations' names, hosts with code, and the count of wrong answers. */
final class Kit {
    static final int INT = 0;
    static final int ATOM = 1;
    static final int MOVE = 2;
    static final int SELF = 3;
    static final int NIL = 4;
    static final int PAIR = 5;
    static final int TUPLE = 6;
    static final int FIRST = 7;
    static final int SECOND = 8;
    static final int ADD = 9;
    static final int SUB = 10;
    static final int LESS = 11;
    static final int SAME = 12;
    static final int IS = 13;
    static final int JUMP = 14;
    static final int CALL = 15;
    static final int RETURN = 16;
    static final int SEND = 17;
    static final int PEEK = 18;
    static final int TAKE = 19;
    static final int NEXT = 20;
    static final int WAIT = 21;
    static final int SPAWN = 22;
    static final int LINK = 23;
    static final int TRAP = 24;
    static final int END = 25;
    static final int STOP = 26;

    static final int READY = 1;
    static final int WAITS = 2;
    static final int ENDED = 3;

    static final int AN_INT = 100;
    static final int AN_ATOM = 1000100;
    static final int A_PID = 2000100;
    static final int THE_NIL = 3000100;
    static final int KILLED = AN_ATOM + 12;
    static final int FAULT = AN_ATOM + 13;
    static final int NORMAL = AN_ATOM + 14;
    static final int EXIT = AN_ATOM + 15;

    static final int STATE = 0;
    static final int PLACE = 1;
    static final int MARK = 2;
    static final int MAIL = 3;
    static final int RETURNS = 4;
    static final int LINKS = 5;
    static final int TRAPS = 6;
    static final int DONE = 7;

    static final int REASON = 8;
    static final int MESSAGE = 9;

    static final int[] FAR_OUT = {Integer.MIN_VALUE, Integer.MIN_VALUE + 1, -1000000, -1, Integer.MAX_VALUE - 1, Integer.MAX_VALUE};

    /** To an operation its three numbers: r a register, t an atom, s a sort, l an instruction, . any int or none. */
    private static final String[] NUMBERS = {
        "r..", "rt.", "rr.", "r..", "r..", "rrr", "rrr", "rr.", "rr.", "rrr", "rrr",
        "rrl", "rrl", "rsl", "l..", "l..", "...",
        "rr.", "rl.", "...", "l..", "l..",
        "rlr", "r..", "...", "r..", "r..",
    };

    private static int asked = 0;
    private static int wrong = 0;

    private Kit() {
    }

    /** What that number of the operation, 0 for a, must be less than; 0 if it may be any int, or there is none. */
    static int limit(int operation, int which) {
        switch (NUMBERS[operation].charAt(which)) {
            case 'r': return 8;
            case 't': return 16;
            case 's': return 6;
            case 'l': return 48;
            default: return 0;
        }
    }

    static void due(String what, long got, long want) {
        asked++;
        if (got != want) {
            wrong++;
            System.out.println(what + " answered " + got + ", due is " + want);
        }
    }

    static void due(String what, boolean got, boolean want) {
        due(what, got ? 1 : 0, want ? 1 : 0);
    }

    static void due(String what, String got, String want) {
        asked++;
        if (!got.equals(want)) {
            wrong++;
            System.out.println(what + " is\n  " + got + "\ndue is\n  " + want);
        }
    }

    static void finish() {
        System.out.println(asked + " answers, " + wrong + " wrong");
        if (wrong != 0 || asked == 0) {
            System.exit(1);
        }
    }

    /** An instruction; the numbers that are not given are 0. */
    static int[] op(int... numbers) {
        return java.util.Arrays.copyOf(numbers, 4);
    }

    static TurnHost host(int quota, int[]... code) {
        TurnHost x = new TurnHost(quota);
        load(x, code);
        return x;
    }

    static void load(TurnHost x, int[]... code) {
        for (int[] i : code) {
            if (x.add(i[0], i[1], i[2], i[3]) < 0) {
                throw new IllegalArgumentException("the code of a test was refused: " + java.util.Arrays.toString(i));
            }
        }
    }

    /** Runs until no process is ready; answers how many reductions that took. */
    static int runOut(TurnHost x) {
        int all = 0;
        for (int k = 0; k < 400; k++) {
            int done = x.run(15);
            all += done;
            if (done < 15) {
                break;
            }
        }
        return all;
    }

    /** A host whose one process, with the int n in register 0, has run the code out. */
    static TurnHost ran(int n, int[]... code) {
        TurnHost x = host(50, code);
        x.begin(0, n);
        runOut(x);
        return x;
    }

    /** A host whose one process, with the int n in register 0, has run a code of several parts out. */
    static TurnHost ranParts(int n, int[][]... parts) {
        return ran(n, join(parts));
    }

    static int[][] join(int[][]... parts) {
        java.util.List<int[]> all = new java.util.ArrayList<>();
        for (int[][] part : parts) {
            all.addAll(java.util.Arrays.asList(part));
        }
        return all.toArray(new int[0][]);
    }

    static int[][] one(int... numbers) {
        return new int[][] {op(numbers)};
    }

    static int[][] times(int n, int... numbers) {
        int[][] all = new int[n][];
        for (int k = 0; k < n; k++) {
            all[k] = op(numbers);
        }
        return all;
    }

    /** Makes register r, not 0, a chain of pairs of that weight, which is odd, out of the leaf in register 0. */
    static int[][] chain(int r, int weight) {
        return join(one(MOVE, r, 0), times((weight - 1) / 2, PAIR, r, r, 0));
    }

    /** Passes over the messages that there are, with the mark behind the last, and waits; the first of three at place. */
    static int[][] passOverAndWait(int place) {
        return new int[][] {op(PEEK, 7, place + 2), op(NEXT, place), op(WAIT, place)};
    }

    /** What digest makes of these steps. */
    static int mix(int... steps) {
        int s = 7;
        for (int step : steps) {
            s = s * 31 + step;
        }
        return s;
    }

    /** The digest of the TUPLE of EXIT and the TUPLE of a pid and a reason that has a number. */
    static int notice(int pid, int sort, int number) {
        return mix(6, 2, 15, 6, 3, pid, sort + 1, number);
    }

    /** The queue from its first on, as one text. */
    static String queue(TurnHost x) {
        StringBuilder all = new StringBuilder();
        for (int k = 0, p = x.queue(0); k < 13 && p != -1; k++, p = x.queue(k)) {
            all.append(k == 0 ? "" : " ").append(p);
        }
        return all.toString();
    }

    /** All that can be asked of a host, as one text: with 12 processes some 330 calls, and two more for each message. */
    static String state(TurnHost x) {
        StringBuilder all = new StringBuilder("queue ").append(queue(x));
        int count = x.processes();
        for (int p = 0; p < count; p++) {
            all.append("; process ").append(p).append(':').append(state(x, p));
        }
        return all.toString();
    }

    static String state(TurnHost x, int p) {
        StringBuilder all = new StringBuilder();
        int[] answers = new int[8];
        for (int what = 0; what < 8; what++) {
            answers[what] = x.process(p, what);
            all.append(' ').append(answers[what]);
        }
        for (int where = 0; where < MESSAGE + answers[MAIL]; where++) {
            all.append(' ').append(x.term(p, where)).append('/').append(x.digest(p, where));
        }
        return all.toString();
    }
}
