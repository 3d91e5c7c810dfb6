/** Promise 5: run and its turns. */
public final class RunTest {
    public static void main(String[] args) {
        wrongNumbers();
        upToN();
        turnsGoOnWithTheNextCall();
        turnThatIsOverIsOverAtOnce();
        fewerWhenNobodyIsReady();
        newTurnIsWhole();
        oneThatComesInTheLastReduction();
        Kit.finish();
    }

    private static void wrongNumbers() {
        TurnHost x = Kit.host(3, Kit.op(Kit.JUMP, 0));
        x.begin(0, 0);
        for (int n : Kit.FAR_OUT) {
            Kit.due("run " + n, x.run(n), -1);
        }
        Kit.due("run 0", x.run(0), -1);
        Kit.due("run 16", x.run(16), -1);
        Kit.due("nothing was done", x.process(0, Kit.DONE), 0);
        Kit.due("run 1", x.run(1), 1);
        Kit.due("run 15", x.run(15), 15);
        Kit.due("sixteen were done", x.process(0, Kit.DONE), 16);
    }

    private static void upToN() {
        TurnHost x = Kit.host(3, Kit.op(Kit.JUMP, 0));
        x.begin(0, 0);
        x.begin(0, 0);
        for (int n = 1; n <= 15; n++) {
            Kit.due("run " + n, x.run(n), n);
        }
        Kit.due("both together", x.process(0, Kit.DONE) + x.process(1, Kit.DONE), 120);
        Kit.due("by turns", x.process(0, Kit.DONE), 60);
    }

    private static void turnsGoOnWithTheNextCall() {
        TurnHost x = Kit.host(5, Kit.op(Kit.JUMP, 0));
        x.begin(0, 0);
        x.begin(0, 0);
        x.run(3);
        Kit.due("its turn still", x.queue(0), 0);
        x.run(4);
        Kit.due("five of the first", x.process(0, Kit.DONE), 5);
        Kit.due("two of the second", x.process(1, Kit.DONE), 2);
        Kit.due("the second's turn", x.queue(0), 1);
        x.run(3);
        Kit.due("the second's turn was five long", x.process(1, Kit.DONE), 5);
        Kit.due("the first's turn", x.queue(0), 0);
    }

    private static void turnThatIsOverIsOverAtOnce() {
        TurnHost x = Kit.host(5, Kit.op(Kit.JUMP, 0), Kit.op(Kit.WAIT, 0));
        x.begin(0, 0);
        x.begin(1, 0);
        x.run(5);
        Kit.due("the next one's turn", x.queue(0), 1);
        Kit.due("the first is last", x.queue(1), 0);
        x.run(1);
        x.begin(0, 0);
        x.run(5);
        Kit.due("behind what had come", x.queue(0) * 10 + x.queue(1), 20);
        x.tell(1, 0);
        Kit.due("the one told comes last", x.queue(2), 1);
    }

    private static void fewerWhenNobodyIsReady() {
        TurnHost x = Kit.host(2, Kit.op(Kit.INT, 1, 1), Kit.op(Kit.WAIT, 2), Kit.op(Kit.RETURN));
        x.begin(0, 0);
        x.begin(2, 0);
        Kit.due("two and one", x.run(15), 3);
        Kit.due("none", x.run(15), 0);
        x.tell(0, 0);
        Kit.due("one", x.run(15), 1);
    }

    /** One that waited in the midst of its turn gets the whole quota in its next; the one after it, too. */
    private static void newTurnIsWhole() {
        TurnHost x = Kit.host(4, Kit.op(Kit.WAIT, 1), Kit.op(Kit.JUMP, 1));
        x.begin(0, 0);
        x.begin(1, 0);
        x.run(5);
        Kit.due("the second did a whole turn", x.process(1, Kit.DONE), 4);
        x.tell(0, 0);
        x.run(2);
        Kit.due("the second's turn", x.queue(0), 1);
        x.run(2);
        Kit.due("the first's turn", x.queue(0), 0);
        x.run(3);
        Kit.due("its turn still", x.queue(0), 0);
        x.run(1);
        Kit.due("a whole turn", x.process(0, Kit.DONE), 5);
        Kit.due("and no more", x.queue(0), 1);
        TurnHost y = Kit.host(4, Kit.op(Kit.NIL, 1), Kit.op(Kit.RETURN), Kit.op(Kit.JUMP, 2));
        y.begin(0, 0);
        y.begin(2, 0);
        y.begin(2, 0);
        y.run(6);
        Kit.due("after an end, the next turn is whole", y.queue(0) * 10 + y.queue(1), 21);
    }

    private static void oneThatComesInTheLastReduction() {
        TurnHost x = Kit.host(2, Kit.op(Kit.NIL, 1), Kit.op(Kit.SPAWN, 1, 2, 1), Kit.op(Kit.JUMP, 2));
        x.begin(0, 0);
        x.begin(2, 0);
        x.run(2);
        Kit.due("first the one that stood there", x.queue(0), 1);
        Kit.due("then the one spawned", x.queue(1), 2);
        Kit.due("then the one whose turn is over", x.queue(2), 0);
    }
}
