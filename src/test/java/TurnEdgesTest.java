/** The edges that the paragraph on TURNS and promise 5 name; above each test the words that it tests. */
public final class TurnEdgesTest {
    private static final int[] SPIN = Kit.op(Kit.JUMP, 0);

    public static void main(String[] args) {
        exactlyQuota();
        quota1();
        quota50OverSeveralCalls();
        aloneInTheQueue();
        waitIsTheLastOfATurn();
        endIsTheLastOfATurn();
        faultIsTheLastOfATurn();
        waitThatGoesOnIsTheLastOfATurn();
        aTurnCutShortByWaiting();
        aTurnCutShortByItsOwnDeed();
        whatBecomesReadyComesBehind();
        whatBecomesReadyInTheLastReduction();
        tellAndBeginComeBehind();
        readyAgainAtOnce();
        theTurnGoesOnWithTheNextCall();
        othersCallsLeaveTheTurnAlone();
        runFrom1To15();
        runNobodyReady();
        runFewer();
        runOutWithin();
        Kit.finish();
    }

    private static TurnHost spinners(int quota, int count) {
        TurnHost x = Kit.host(quota, SPIN);
        for (int p = 0; p < count; p++) {
            x.begin(0, 0);
        }
        return x;
    }

    /** "does up to QUOTA reductions; if it is ready then, it comes to the end of the queue" */
    private static void exactlyQuota() {
        for (int quota : new int[] {1, 2, 7, 8, 14, 15, 16, 49, 50}) {
            TurnHost x = spinners(quota, 2);
            for (int k = 1; k <= 2 * quota; k++) {
                x.run(1);
                boolean second = k >= quota && k < 2 * quota;
                Kit.due("quota " + quota + ", after " + k, Kit.queue(x), second ? "1 0" : "0 1");
            }
            Kit.due("as many of each", x.process(0, Kit.DONE) * 100 + x.process(1, Kit.DONE), quota * 101);
        }
    }

    /** "up to QUOTA reductions": the least quota */
    private static void quota1() {
        TurnHost x = spinners(1, 12);
        x.run(15);
        Kit.due("the queue", Kit.queue(x), "3 4 5 6 7 8 9 10 11 0 1 2");
        for (int p = 0; p < 12; p++) {
            Kit.due("done by " + p, x.process(p, Kit.DONE), p < 3 ? 2 : 1);
        }
    }

    /** "up to QUOTA reductions": the greatest quota, which takes several calls */
    private static void quota50OverSeveralCalls() {
        TurnHost x = spinners(50, 2);
        x.run(15);
        x.run(15);
        x.run(15);
        x.run(4);
        Kit.due("49: its turn still", Kit.queue(x), "0 1");
        x.run(1);
        Kit.due("50: over", Kit.queue(x), "1 0");
        x.run(15);
        Kit.due("done by 0", x.process(0, Kit.DONE), 50);
        Kit.due("done by 1", x.process(1, Kit.DONE), 15);
    }

    /** "it comes to the end of the queue": of which it is the first again, if there is no other */
    private static void aloneInTheQueue() {
        TurnHost x = spinners(2, 1);
        Kit.due("15 of one", x.run(15), 15);
        Kit.due("the queue", Kit.queue(x), "0");
        x.begin(0, 0);
        x.run(1);
        Kit.due("16, its turn is over", Kit.queue(x), "1 0");
    }

    /** "if it is ready then": one that waits with the last reduction of its turn does not come back */
    private static void waitIsTheLastOfATurn() {
        TurnHost x = Kit.host(2, Kit.op(Kit.NIL, 1), Kit.op(Kit.WAIT, 2), Kit.op(Kit.JUMP, 2));
        x.begin(0, 0);
        x.begin(2, 0);
        x.begin(2, 0);
        x.run(2);
        Kit.due("it waits", Kit.queue(x), "1 2");
        x.run(1);
        Kit.due("the next has the whole of its turn", Kit.queue(x), "1 2");
        x.run(1);
        Kit.due("and no more", Kit.queue(x), "2 1");
    }

    /** "if it is ready then": one that ends with the last reduction of its turn does not come back */
    private static void endIsTheLastOfATurn() {
        TurnHost x = Kit.host(2, Kit.op(Kit.NIL, 1), Kit.op(Kit.RETURN), Kit.op(Kit.JUMP, 2));
        x.begin(0, 0);
        x.begin(2, 0);
        x.begin(2, 0);
        x.run(2);
        Kit.due("it has ended", Kit.queue(x), "1 2");
        x.run(1);
        Kit.due("the next has the whole of its turn", Kit.queue(x), "1 2");
        x.run(1);
        Kit.due("and no more", Kit.queue(x), "2 1");
    }

    /** "if there is no instruction at the place, that counts as one, too": in a turn, and in what run answers */
    private static void faultIsTheLastOfATurn() {
        TurnHost x = Kit.host(3, Kit.op(Kit.JUMP, 0), Kit.op(Kit.JUMP, 47));
        x.begin(1, 0);
        x.begin(0, 0);
        Kit.due("two of the first, three of the other", x.run(5), 5);
        Kit.due("the first", x.process(0, Kit.DONE), 2);
        Kit.due("the other", x.process(1, Kit.DONE), 3);
        Kit.due("the queue", Kit.queue(x), "1");
    }

    /** "WAIT ... else it goes on", "if it is ready then, it comes to the end of the queue" */
    private static void waitThatGoesOnIsTheLastOfATurn() {
        TurnHost x = Kit.host(2, Kit.op(Kit.NIL, 1), Kit.op(Kit.WAIT, 2), Kit.op(Kit.JUMP, 2));
        x.begin(0, 0);
        x.begin(2, 0);
        x.tell(0, 5);
        x.run(2);
        Kit.due("ready, at the end", Kit.queue(x), "1 0");
    }

    /** "does up to QUOTA reductions": one that waits before is done with its turn, and has a whole one the next time */
    private static void aTurnCutShortByWaiting() {
        TurnHost x = Kit.host(4, Kit.op(Kit.NIL, 1), Kit.op(Kit.NIL, 1), Kit.op(Kit.WAIT, 3), Kit.op(Kit.JUMP, 3));
        x.begin(0, 0);
        x.begin(3, 0);
        x.run(3);
        Kit.due("it waits after three", Kit.queue(x), "1");
        x.tell(0, 5);
        Kit.due("it comes behind", Kit.queue(x), "1 0");
        x.run(4);
        Kit.due("four of the other", Kit.queue(x), "0 1");
        x.run(3);
        Kit.due("three of its next turn", Kit.queue(x), "0 1");
        x.run(1);
        Kit.due("four of its next turn", Kit.queue(x), "1 0");
    }

    /** "does up to QUOTA reductions": one that ends itself by what it does to another is done with its turn */
    private static void aTurnCutShortByItsOwnDeed() {
        TurnHost x = Kit.host(4, Kit.op(Kit.SPAWN, 1, 4, 0), Kit.op(Kit.LINK, 1), Kit.op(Kit.STOP, 1), Kit.op(Kit.JUMP, 3), Kit.op(Kit.JUMP, 4));
        x.begin(0, 0);
        x.begin(4, 0);
        x.begin(4, 0);
        x.run(3);
        Kit.due("it and the one it stopped are gone", Kit.queue(x), "1 2");
        x.run(3);
        Kit.due("three of the next", Kit.queue(x), "1 2");
        x.run(1);
        Kit.due("four of the next", Kit.queue(x), "2 1");
    }

    /** "A process that becomes ready comes to the end of the queue, at once": SPAWN, SEND and a notice, in the midst of a turn */
    private static void whatBecomesReadyComesBehind() {
        TurnHost x = Kit.host(50, Kit.op(Kit.SPAWN, 1, 8, 0), Kit.op(Kit.SPAWN, 2, 6, 0), Kit.op(Kit.WAIT, 3), Kit.op(Kit.STOP, 2), Kit.op(Kit.SEND, 1, 0), Kit.op(Kit.SPAWN, 3, 8, 0),
            Kit.op(Kit.TRAP, 1), Kit.op(Kit.JUMP, 8), Kit.op(Kit.WAIT, 9), Kit.op(Kit.JUMP, 9));
        x.begin(0, 0);
        x.run(2);
        Kit.due("spawned ones", Kit.queue(x), "0 1 2");
        Kit.due("all wait", Kit.runOut(x), 5);
        x.begin(9, 0);
        x.tell(0, 0);
        Kit.due("the one told", Kit.queue(x), "3 0");
        for (int k = 0; k < 50; k++) {
            x.run(1);
        }
        x.run(1);
        Kit.due("the one that hears of STOP", Kit.queue(x), "0 3 2");
        x.run(1);
        Kit.due("the one that something was sent to", Kit.queue(x), "0 3 2 1");
        x.run(1);
        Kit.due("the one spawned", Kit.queue(x), "0 3 2 1 4");
    }

    /** "if it is ready then, it comes to the end": behind what became ready in its last reduction */
    private static void whatBecomesReadyInTheLastReduction() {
        TurnHost x = Kit.host(3, Kit.op(Kit.SPAWN, 1, 4, 0), Kit.op(Kit.WAIT, 2), Kit.op(Kit.NIL, 2), Kit.op(Kit.JUMP, 6), Kit.op(Kit.WAIT, 5), Kit.op(Kit.JUMP, 5), Kit.op(Kit.SEND, 1, 0), Kit.op(Kit.JUMP, 7));
        x.begin(0, 0);
        Kit.due("both wait", Kit.runOut(x), 3);
        x.begin(5, 0);
        x.tell(0, 0);
        x.run(3);
        Kit.due("its turn", Kit.queue(x), "0 2");
        x.run(2);
        Kit.due("its last reduction comes", Kit.queue(x), "0 2");
        x.run(1);
        Kit.due("the one sent to stands before it", Kit.queue(x), "2 1 0");
    }

    /** "A process that becomes ready comes to the end of the queue, at once": by tell and begin, between two calls of run */
    private static void tellAndBeginComeBehind() {
        TurnHost x = Kit.host(3, Kit.op(Kit.WAIT, 1), Kit.op(Kit.JUMP, 1));
        x.begin(0, 0);
        x.begin(1, 0);
        x.begin(1, 0);
        x.run(2);
        x.tell(0, 0);
        x.begin(1, 0);
        Kit.due("one told, one begun", Kit.queue(x), "1 2 0 3");
        x.tell(0, 0);
        x.tell(1, 0);
        x.tell(2, 0);
        Kit.due("ready ones that are told stay where they are", Kit.queue(x), "1 2 0 3");
        x.run(2);
        Kit.due("the turn was over after three", Kit.queue(x), "2 0 3 1");
    }

    /** "A process that becomes ready ...": one that has waited in its turn and is told has a new turn, not the rest of the old */
    private static void readyAgainAtOnce() {
        TurnHost x = Kit.host(4, Kit.op(Kit.NIL, 1), Kit.op(Kit.WAIT, 2), Kit.op(Kit.JUMP, 2));
        x.begin(0, 0);
        x.run(2);
        x.tell(0, 0);
        x.begin(2, 0);
        x.run(3);
        Kit.due("three of the new turn", Kit.queue(x), "0 1");
        x.run(1);
        Kit.due("four of the new turn", Kit.queue(x), "1 0");
    }

    /** "a turn that is not over goes on with the next call" */
    private static void theTurnGoesOnWithTheNextCall() {
        for (int step = 1; step <= 15; step++) {
            TurnHost x = spinners(7, 3);
            int done = 0;
            for (int k = 0; k < 20; k++) {
                done += x.run(step);
                Kit.due("whose turn it is, by steps of " + step, x.queue(0), done / 7 % 3);
            }
        }
    }

    /** "a turn that is not over goes on": whatever is called in between */
    private static void othersCallsLeaveTheTurnAlone() {
        TurnHost x = spinners(5, 2);
        x.run(3);
        x.begin(0, 0);
        x.begin(48, 0);
        x.add(Kit.NIL, 0, 0, 0);
        x.add(27, 0, 0, 0);
        x.tell(0, 1);
        x.tell(1, 1);
        x.tell(9, 1);
        x.run(0);
        x.run(16);
        x.process(0, 0);
        x.queue(0);
        x.processes();
        x.term(0, 0);
        x.digest(0, 0);
        x.run(1);
        Kit.due("four of its turn", Kit.queue(x), "0 1 2");
        x.run(1);
        Kit.due("five of its turn", Kit.queue(x), "1 2 0");
    }

    /** "-1, refused, if n is not 1 .. 15" */
    private static void runFrom1To15() {
        for (int n = -2; n <= 18; n++) {
            TurnHost x = spinners(8, 1);
            boolean taken = n >= 1 && n <= 15;
            Kit.due("run " + n, x.run(n), taken ? n : -1);
            Kit.due("done", x.process(0, Kit.DONE), taken ? n : 0);
        }
        for (int n : Kit.FAR_OUT) {
            Kit.due("run " + n, spinners(8, 1).run(n), -1);
            Kit.due("run " + n + " with nobody there", new TurnHost(8).run(n), -1);
        }
    }

    /** "how many were done (fewer, if no process is ready)": none at all */
    private static void runNobodyReady() {
        TurnHost x = Kit.host(8, Kit.op(Kit.WAIT, 0), Kit.op(Kit.RETURN));
        Kit.due("no process", x.run(15), 0);
        x.begin(0, 0);
        x.begin(1, 0);
        x.run(2);
        for (int n = 1; n <= 15; n++) {
            Kit.due("one waits, one has ended", x.run(n), 0);
        }
        Kit.due("n is looked at all the same", x.run(16), -1);
    }

    /** "fewer, if no process is ready": of several that stop one after the other */
    private static void runFewer() {
        TurnHost x = Kit.host(2, Kit.op(Kit.NIL, 1), Kit.op(Kit.NIL, 1), Kit.op(Kit.NIL, 1), Kit.op(Kit.WAIT, 4), Kit.op(Kit.RETURN));
        x.begin(0, 0);
        x.begin(2, 0);
        x.begin(4, 0);
        Kit.due("four, two and one", x.run(15), 7);
        x.tell(0, 0);
        x.tell(1, 0);
        Kit.due("two ends", x.run(15), 2);
        Kit.due("none", x.run(15), 0);
    }

    /** "Up to n reductions": no more than n, if there is more to do; and the last of them may be the last of all */
    private static void runOutWithin() {
        TurnHost x = Kit.host(50, Kit.join(Kit.times(14, Kit.NIL, 1), Kit.one(Kit.RETURN)));
        x.begin(0, 0);
        Kit.due("14 of 15", x.run(14), 14);
        Kit.due("ready", x.process(0, Kit.STATE), Kit.READY);
        Kit.due("the last one", x.run(15), 1);
        x.begin(0, 0);
        Kit.due("all 15 at once", x.run(15), 15);
        Kit.due("ended", x.process(1, Kit.STATE), Kit.ENDED);
    }
}
