/**
 * The last row of OPERATIONS: "Where a register is not of the sort that is needed ..., a term would weigh too much, there are 12 processes or
 * 6 returns, there is no message at the mark (19): the process ends with FAULT."
 */
public final class FaultEdgesTest {
    private static final int SORTS = 6;
    private static final String INTS = "0";
    private static final String PIDS = "2";
    private static final String JOINED = "45";
    private static final String ALL = "012345";

    public static void main(String[] args) {
        sortsOfFirstAndSecond();
        sortsOfSums();
        sortsOfLess();
        sortsOfPids();
        operationsForAllSorts();
        tooHeavy();
        twelveProcesses();
        sixReturns();
        noMessageAtTheMark();
        aFaultIsAnEndLikeAnother();
        Kit.finish();
    }

    private static int[] maker(int sort, int r) {
        switch (sort) {
            case 0: return Kit.op(Kit.INT, r, 6);
            case 1: return Kit.op(Kit.ATOM, r, 1);
            case 2: return Kit.op(Kit.SELF, r);
            case 3: return Kit.op(Kit.NIL, r);
            case 4: return Kit.op(Kit.PAIR, r, 0, 0);
            default: return Kit.op(Kit.TUPLE, r, 0, 0);
        }
    }

    /** Register 1 is made of each sort, 0 and 4 are ints; the operation must end with FAULT and leave all else alone, but for the sorts it takes. */
    private static void needs(String sorts, int... operation) {
        for (int sort = 0; sort < SORTS; sort++) {
            TurnHost x = Kit.host(50, Kit.op(Kit.INT, 4, 9), maker(sort, 1), Kit.op(operation), Kit.op(Kit.RETURN));
            x.begin(0, 8);
            x.tell(0, 5);
            x.run(2);
            String what = "operation " + operation[0] + " with sort " + sort;
            String terms = terms(x);
            x.run(1);
            if (sorts.indexOf('0' + sort) >= 0) {
                Kit.due(what + " is no fault", x.term(0, Kit.REASON) == Kit.FAULT, false);
            } else {
                faulted(what, x, 3);
                Kit.due(what + ": the terms stay", terms(x), terms);
                Kit.due(what + ": no other process", x.processes(), 1);
            }
        }
    }

    /** The registers and the one message. */
    private static String terms(TurnHost x) {
        StringBuilder all = new StringBuilder();
        for (int r = 0; r < 8; r++) {
            all.append(' ').append(x.digest(0, r));
        }
        return all.append(' ').append(x.digest(0, Kit.MESSAGE)).append(' ').append(x.process(0, Kit.MAIL)).append(' ').append(x.process(0, Kit.MARK)).toString();
    }

    private static void faulted(String what, TurnHost x, int place) {
        Kit.due(what + ": ended", x.process(0, Kit.STATE), Kit.ENDED);
        Kit.due(what + ": FAULT", x.term(0, Kit.REASON), Kit.FAULT);
        Kit.due(what + ": the place behind it", x.process(0, Kit.PLACE), place);
        Kit.due(what + ": out of the queue", x.queue(0), -1);
        Kit.due(what + ": nothing more is done", x.run(15), 0);
    }

    /** "7 FIRST a b, 8 SECOND a b: ... of R b, a pair or tuple" */
    private static void sortsOfFirstAndSecond() {
        needs(JOINED, Kit.FIRST, 3, 1);
        needs(JOINED, Kit.SECOND, 3, 1);
        needs(JOINED, Kit.FIRST, 1, 1);
        needs(JOINED, Kit.SECOND, 1, 1);
    }

    /** "9 ADD a b c, 10 SUB a b c: ... ints": both of them */
    private static void sortsOfSums() {
        for (int operation = Kit.ADD; operation <= Kit.SUB; operation++) {
            needs(INTS, operation, 3, 1, 0);
            needs(INTS, operation, 3, 0, 1);
            needs(INTS, operation, 3, 1, 1);
            needs(INTS, operation, 1, 1, 0);
        }
    }

    /** "11 LESS a b l: if the int R a is not less than the int R b": both of them, whichever is less */
    private static void sortsOfLess() {
        needs(INTS, Kit.LESS, 1, 0, 40);
        needs(INTS, Kit.LESS, 0, 1, 40);
        needs(INTS, Kit.LESS, 1, 1, 40);
        needs(INTS, Kit.LESS, 1, 4, 40);
        needs(INTS, Kit.LESS, 4, 1, 40);
    }

    /**
     * "17 SEND a b", "23 LINK a", "26 STOP a": R a is a pid; a number of another sort that a process bears is none.
     * "(a pid that is no process, too)" has no test: pids come from processes alone, and clear takes all terms with the processes.
     */
    private static void sortsOfPids() {
        needs(PIDS, Kit.SEND, 1, 0);
        needs(PIDS, Kit.LINK, 1);
        needs(PIDS, Kit.STOP, 1);
        for (int operation : new int[] {Kit.SEND, Kit.LINK, Kit.STOP}) {
            for (int[] zero : new int[][] {Kit.op(Kit.INT, 1, 0), Kit.op(Kit.ATOM, 1, 0)}) {
                TurnHost x = Kit.host(50, zero, Kit.op(operation, 1, 0));
                x.begin(0, 0);
                x.run(2);
                faulted("operation " + operation + " with a 0 that is no pid", x, 2);
                Kit.due("nothing has come", x.process(0, Kit.MAIL), 0);
            }
        }
    }

    /** The others need no sort: 2, 5, 6, 12, 13, what is sent (17), the argument (22), the reason (25) */
    private static void operationsForAllSorts() {
        needs(ALL, Kit.MOVE, 3, 1);
        needs(ALL, Kit.PAIR, 3, 1, 1);
        needs(ALL, Kit.TUPLE, 3, 1, 0);
        needs(ALL, Kit.SAME, 1, 0, 40);
        needs(ALL, Kit.SAME, 0, 1, 40);
        for (int sort = 0; sort < SORTS; sort++) {
            needs(ALL, Kit.IS, 1, sort, 40);
        }
        needs(ALL, Kit.SPAWN, 3, 3, 1);
        needs(ALL, Kit.END, 1);
        for (int sort = 0; sort < SORTS; sort++) {
            TurnHost x = Kit.ran(0, Kit.op(Kit.SELF, 2), maker(sort, 1), Kit.op(Kit.SEND, 2, 1), Kit.op(Kit.RETURN));
            Kit.due("sort " + sort + " can be sent", x.digest(0, Kit.MESSAGE), x.digest(0, 1));
            Kit.due("sort " + sort + ": no fault", x.term(0, Kit.REASON), Kit.NORMAL);
        }
    }

    /** "a term would weigh too much": 17, made of 15 and 1 or of 7 and 9; the register is not set, be it one of the two or another */
    private static void tooHeavy() {
        for (int operation = Kit.PAIR; operation <= Kit.TUPLE; operation++) {
            for (int into : new int[] {0, 1, 2, 3}) {
                heavy(operation, into, 15, 1);
                heavy(operation, into, 1, 15);
                heavy(operation, into, 7, 9);
                heavy(operation, into, 15, 15);
            }
        }
    }

    private static void heavy(int operation, int into, int first, int second) {
        int[][] make = Kit.join(Kit.chain(1, first), Kit.chain(2, second));
        TurnHost x = Kit.host(50, Kit.join(make, Kit.one(operation, into, 1, 2)));
        x.begin(0, 8);
        x.tell(0, 5);
        for (int k = 0; k < make.length; k++) {
            x.run(1);
        }
        String terms = terms(x);
        x.run(1);
        String what = "operation " + operation + " of " + first + " and " + second;
        faulted(what, x, make.length + 1);
        Kit.due(what + ": the terms stay", terms(x), terms);
    }

    /** "there are 12 processes" */
    private static void twelveProcesses() {
        TurnHost x = Kit.host(50, Kit.op(Kit.SPAWN, 0, 1, 0), Kit.op(Kit.JUMP, 1));
        x.begin(0, 8);
        for (int k = 1; k < 12; k++) {
            x.begin(1, k);
        }
        x.run(1);
        Kit.due("SPAWN: ended", x.process(0, Kit.STATE), Kit.ENDED);
        Kit.due("SPAWN: FAULT", x.term(0, Kit.REASON), Kit.FAULT);
        Kit.due("SPAWN: the register stays", x.term(0, 0), Kit.AN_INT + 8);
        Kit.due("SPAWN: 12 still", x.processes(), 12);
        Kit.due("SPAWN: none more in the queue", Kit.queue(x), "1 2 3 4 5 6 7 8 9 10 11");
        TurnHost y = Kit.host(50, Kit.op(Kit.SPAWN, 0, 1, 0), Kit.op(Kit.JUMP, 1));
        y.begin(0, 8);
        for (int k = 1; k < 11; k++) {
            y.begin(1, k);
        }
        y.run(1);
        Kit.due("with 11 it is no fault", y.term(0, 0), Kit.A_PID + 11);
    }

    /** "or 6 returns" */
    private static void sixReturns() {
        TurnHost x = Kit.host(50, Kit.op(Kit.CALL, 0));
        x.begin(0, 8);
        x.run(6);
        Kit.due("the sixth is no fault", x.process(0, Kit.STATE), Kit.READY);
        x.run(1);
        faulted("the seventh", x, 1);
        Kit.due("the returns stay", x.process(0, Kit.RETURNS), 6);
    }

    /** "there is no message at the mark (19)": and only there; PEEK and WAIT without one are no faults */
    private static void noMessageAtTheMark() {
        TurnHost x = Kit.host(50, Kit.op(Kit.TAKE));
        x.begin(0, 8);
        x.run(1);
        faulted("TAKE", x, 1);
        TurnHost y = Kit.host(50, Kit.op(Kit.PEEK, 1, 1), Kit.op(Kit.WAIT, 1));
        y.begin(0, 8);
        y.run(2);
        Kit.due("PEEK and WAIT", y.process(0, Kit.STATE), Kit.WAITS);
    }

    /** "the process ends with FAULT": links and turns are as with any end */
    private static void aFaultIsAnEndLikeAnother() {
        TurnHost x = Kit.host(4, Kit.op(Kit.TRAP, 1), Kit.op(Kit.SPAWN, 1, 5, 0), Kit.op(Kit.LINK, 1), Kit.op(Kit.WAIT, 4), Kit.op(Kit.JUMP, 4), Kit.op(Kit.TAKE));
        x.begin(0, 8);
        x.begin(4, 8);
        x.run(8);
        Kit.due("the next turn", Kit.queue(x), "2 1");
        x.run(1);
        Kit.due("the news makes the other ready", Kit.queue(x), "1 0");
        Kit.due("FAULT from there", x.digest(0, Kit.MESSAGE), Kit.notice(2, 1, 13));
        Kit.due("the link is gone", x.process(0, Kit.LINKS) + x.process(2, Kit.LINKS), 0);
    }
}
