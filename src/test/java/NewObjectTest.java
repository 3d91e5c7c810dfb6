/** Promise 1. */
public final class NewObjectTest {
    public static void main(String[] args) {
        startsEmpty();
        for (int quota = 1; quota <= 50; quota++) {
            quotaIs(quota, quota);
        }
        quotaIs(0, 8);
        quotaIs(51, 8);
        quotaIs(52, 8);
        for (int quota : Kit.FAR_OUT) {
            quotaIs(quota, 8);
        }
        objectsAreApart();
        Kit.finish();
    }

    /** "No code and processes." */
    private static void startsEmpty() {
        TurnHost x = new TurnHost(3);
        Kit.due("processes", x.processes(), 0);
        Kit.due("queue 0", x.queue(0), -1);
        Kit.due("process 0", x.process(0, 0), -1);
        Kit.due("term", x.term(0, 0), -1);
        Kit.due("digest", x.digest(0, 0), 0);
        Kit.due("run", x.run(15), 0);
        Kit.due("tell", x.tell(0, 1), false);
        Kit.due("clear", x.clear(true), 0);
        Kit.due("the first process", x.begin(0, 0), 0);
        Kit.due("no code: one reduction", x.run(5), 1);
        Kit.due("no code: FAULT", x.term(0, Kit.REASON), Kit.FAULT);
        Kit.due("the first instruction", x.add(Kit.RETURN, 0, 0, 0), 0);
    }

    /** "QUOTA is quota if that is 1 .. 50, else 8." */
    private static void quotaIs(int given, int want) {
        TurnHost x = Kit.host(given, Kit.op(Kit.JUMP, 0));
        x.begin(0, 0);
        x.begin(0, 0);
        int turn = 0;
        while (x.queue(0) == 0 && turn < 60) {
            x.run(1);
            turn++;
        }
        Kit.due("the turn's length with quota " + given, turn, want);
    }

    private static void objectsAreApart() {
        TurnHost x = new TurnHost(3);
        TurnHost y = new TurnHost(3);
        x.add(Kit.JUMP, 0, 0, 0);
        x.begin(0, 0);
        Kit.due("the other's code", y.add(Kit.JUMP, 0, 0, 0), 0);
        Kit.due("the other's processes", y.processes(), 0);
    }
}
