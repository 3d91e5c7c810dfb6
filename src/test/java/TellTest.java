/** Promise 4. */
public final class TellTest {
    public static void main(String[] args) {
        oldestFirst();
        noSuchProcess();
        endedProcess();
        wakesOneThatWaits();
        wakesWithoutMessageAtTheMark();
        theThirteenthIsLost();
        lostOneWakesNobody();
        Kit.finish();
    }

    private static void oldestFirst() {
        TurnHost x = new TurnHost(4);
        x.begin(0, 0);
        x.begin(0, 0);
        Kit.due("tell", x.tell(1, 21), true);
        Kit.due("tell again", x.tell(1, -1), true);
        Kit.due("two messages", x.process(1, Kit.MAIL), 2);
        Kit.due("the oldest", x.term(1, Kit.MESSAGE), Kit.AN_INT + 21);
        Kit.due("the next", x.term(1, Kit.MESSAGE + 1), Kit.AN_INT + 99);
        Kit.due("no third", x.term(1, Kit.MESSAGE + 2), -1);
        Kit.due("the other has none", x.process(0, Kit.MAIL), 0);
        Kit.due("a ready one stays where it is", x.queue(1), 1);
        Kit.due("and is there once", x.queue(2), -1);
    }

    /** "false if there is no such process" */
    private static void noSuchProcess() {
        TurnHost x = new TurnHost(4);
        x.begin(0, 0);
        for (int p : Kit.FAR_OUT) {
            Kit.due("tell " + p, x.tell(p, 1), false);
        }
        Kit.due("tell 1", x.tell(1, 1), false);
        Kit.due("tell 12", x.tell(12, 1), false);
        x.clear(false);
        Kit.due("tell one that is gone", x.tell(0, 1), false);
    }

    /** "false if ... it has ended" */
    private static void endedProcess() {
        TurnHost x = Kit.ran(0, Kit.op(Kit.RETURN));
        Kit.due("tell", x.tell(0, 1), false);
        Kit.due("nothing came", x.process(0, Kit.MAIL), 0);
        Kit.due("it has ended still", x.process(0, Kit.STATE), Kit.ENDED);
    }

    /** "as by SEND": "if that waits, it is ready" */
    private static void wakesOneThatWaits() {
        TurnHost x = Kit.host(4, Kit.op(Kit.WAIT, 1), Kit.op(Kit.JUMP, 1));
        x.begin(0, 0);
        x.begin(1, 0);
        x.run(1);
        Kit.due("it waits", x.process(0, Kit.STATE), Kit.WAITS);
        Kit.due("tell", x.tell(0, 5), true);
        Kit.due("it is ready", x.process(0, Kit.STATE), Kit.READY);
        Kit.due("behind the other", x.queue(1), 0);
        Kit.due("the other first", x.queue(0), 1);
        x.tell(0, 6);
        Kit.due("in the queue once", x.queue(2), -1);
    }

    private static void wakesWithoutMessageAtTheMark() {
        TurnHost x = Kit.host(8, Kit.op(Kit.NEXT, 1), Kit.op(Kit.NEXT, 2), Kit.op(Kit.WAIT, 2));
        x.begin(0, 0);
        Kit.due("two marks on, and it waits", x.run(15), 3);
        x.tell(0, 5);
        Kit.due("ready, though the mark is further on", x.process(0, Kit.STATE), Kit.READY);
        Kit.due("it waits again", x.run(15), 1);
        x.tell(0, 6);
        Kit.due("and again", x.run(15), 1);
        x.tell(0, 7);
        Kit.due("now there is one at the mark", x.run(15), 15);
    }

    /** "as by SEND": more than 12 are lost, which is no reason to answer false */
    private static void theThirteenthIsLost() {
        TurnHost x = new TurnHost(4);
        x.begin(0, 0);
        for (int k = 0; k < 12; k++) {
            Kit.due("message " + k, x.tell(0, k), true);
        }
        Kit.due("one too many", x.tell(0, 77), true);
        Kit.due("12 messages", x.process(0, Kit.MAIL), 12);
        Kit.due("the last", x.term(0, Kit.MESSAGE + 11), Kit.AN_INT + 11);
        Kit.due("none behind it", x.term(0, Kit.MESSAGE + 12), -1);
    }

    /** "as by SEND": "nothing if it ... has 12 messages" */
    private static void lostOneWakesNobody() {
        TurnHost x = Kit.host(50, Kit.op(Kit.PEEK, 1, 2), Kit.op(Kit.NEXT, 0), Kit.op(Kit.WAIT, 0));
        x.begin(0, 0);
        for (int k = 0; k < 12; k++) {
            x.tell(0, k);
        }
        Kit.due("over twelve, and it waits", Kit.runOut(x), 26);
        Kit.due("the mark behind them", x.process(0, Kit.MARK), 12);
        Kit.due("told, but lost", x.tell(0, 1), true);
        Kit.due("it waits still", x.process(0, Kit.STATE), Kit.WAITS);
        Kit.due("nobody is ready", x.queue(0), -1);
    }
}
