/** What the tests share: the operations' names, hosts with code, and the count of wrong answers. */
final class Kit {
    static final int INT = 0;
    static final int ATOM = 1;
    static final int MOVE = 2;
    static final int SELF = 3;
    static final int NIL = 4;
    static final int PAIR = 5;
    static final int TUPLE = 6;
    static final int FIRST = 7;
    static final int SECOND = 8;
    static final int ADD = 9;
    static final int SUB = 10;
    static final int LESS = 11;
    static final int SAME = 12;
    static final int IS = 13;
    static final int JUMP = 14;
    static final int CALL = 15;
    static final int RETURN = 16;
    static final int SEND = 17;
    static final int PEEK = 18;
    static final int TAKE = 19;
    static final int NEXT = 20;
    static final int WAIT = 21;
    static final int SPAWN = 22;
    static final int LINK = 23;
    static final int TRAP = 24;
    static final int END = 25;
    static final int STOP = 26;

    static final int READY = 1;
    static final int WAITS = 2;
    static final int ENDED = 3;

    static final int AN_INT = 100;
    static final int AN_ATOM = 1000100;
    static final int A_PID = 2000100;
    static final int THE_NIL = 3000100;
    static final int KILLED = AN_ATOM + 12;
    static final int FAULT = AN_ATOM + 13;
    static final int NORMAL = AN_ATOM + 14;
    static final int EXIT = AN_ATOM + 15;

    static final int STATE = 0;
    static final int PLACE = 1;
    static final int MARK = 2;
    static final int MAIL = 3;
    static final int RETURNS = 4;
    static final int LINKS = 5;
    static final int TRAPS = 6;
    static final int DONE = 7;

    static final int REASON = 8;
    static final int MESSAGE = 9;

    static final int[] FAR_OUT = {Integer.MIN_VALUE, Integer.MIN_VALUE + 1, -1000000, -1, Integer.MAX_VALUE - 1, Integer.MAX_VALUE};

    private static int asked = 0;
    private static int wrong = 0;

    private Kit() {
    }

    static void due(String what, long got, long want) {
        asked++;
        if (got != want) {
            wrong++;
            System.out.println(what + " answered " + got + ", due is " + want);
        }
    }

    static void due(String what, boolean got, boolean want) {
        due(what, got ? 1 : 0, want ? 1 : 0);
    }

    static void finish() {
        System.out.println(asked + " answers, " + wrong + " wrong");
        if (wrong != 0 || asked == 0) {
            System.exit(1);
        }
    }

    /** An instruction; the numbers that are not given are 0. */
    static int[] op(int... numbers) {
        return java.util.Arrays.copyOf(numbers, 4);
    }

    static TurnHost host(int quota, int[]... code) {
        TurnHost x = new TurnHost(quota);
        load(x, code);
        return x;
    }

    static void load(TurnHost x, int[]... code) {
        for (int[] i : code) {
            if (x.add(i[0], i[1], i[2], i[3]) < 0) {
                throw new IllegalArgumentException("the code of a test was refused: " + java.util.Arrays.toString(i));
            }
        }
    }

    /** Runs until no process is ready; answers how many reductions that took. */
    static int runOut(TurnHost x) {
        int all = 0;
        for (int k = 0; k < 400; k++) {
            int done = x.run(15);
            all += done;
            if (done < 15) {
                break;
            }
        }
        return all;
    }

    /** A host whose one process, with the int n in register 0, has run the code out. */
    static TurnHost ran(int n, int[]... code) {
        TurnHost x = host(50, code);
        x.begin(0, n);
        runOut(x);
        return x;
    }
}
