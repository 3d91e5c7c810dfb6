/** Promise 3. */
public final class BeginTest {
    public static void main(String[] args) {
        newProcess();
        placesAndTheirEdges();
        atMost12();
        comesToTheEndOfTheQueue();
        Kit.finish();
    }

    /** "A new process at instruction l, with the int n in its register 0, ready: its number" */
    private static void newProcess() {
        TurnHost x = new TurnHost(4);
        Kit.due("its number", x.begin(7, -7), 0);
        Kit.due("ready", x.process(0, Kit.STATE), Kit.READY);
        Kit.due("its place", x.process(0, Kit.PLACE), 7);
        for (int what = Kit.MARK; what <= Kit.DONE; what++) {
            Kit.due("what " + what, x.process(0, what), 0);
        }
        Kit.due("register 0", x.term(0, 0), Kit.AN_INT + 93);
        Kit.due("register 0, whole", x.digest(0, 0), (7 * 31 + 1) * 31 - 7);
        for (int r = 1; r < 8; r++) {
            Kit.due("register " + r, x.term(0, r), Kit.THE_NIL);
        }
        Kit.due("no reason", x.term(0, Kit.REASON), -1);
        Kit.due("no message", x.term(0, Kit.MESSAGE), -1);
        Kit.due("in the queue", x.queue(0), 0);
    }

    /** "-1, refused, if l is not 0 .. 47": whether there is an instruction or not */
    private static void placesAndTheirEdges() {
        TurnHost x = new TurnHost(4);
        for (int l : Kit.FAR_OUT) {
            Kit.due("begin at " + l, x.begin(l, 1), -1);
        }
        Kit.due("begin at 48", x.begin(48, 1), -1);
        Kit.due("none has begun", x.processes(), 0);
        Kit.due("none in the queue", x.queue(0), -1);
        Kit.due("begin at 47, without code", x.begin(47, Integer.MIN_VALUE), 0);
        Kit.due("begin at 0", x.begin(0, Integer.MAX_VALUE), 1);
        Kit.due("the least int", x.digest(0, 0), (7 * 31 + 1) * 31 + Integer.MIN_VALUE);
        Kit.due("the greatest int", x.digest(1, 0), (7 * 31 + 1) * 31 + Integer.MAX_VALUE);
    }

    /** "-1, refused, if ... there are 12": ended ones, too */
    private static void atMost12() {
        TurnHost x = Kit.host(50, Kit.op(Kit.RETURN));
        for (int p = 0; p < 12; p++) {
            Kit.due("process " + p, x.begin(0, p), p);
        }
        Kit.due("the 13th", x.begin(0, 0), -1);
        Kit.due("the 13th, at no place", x.begin(48, 0), -1);
        Kit.due("there are 12", x.processes(), 12);
        Kit.runOut(x);
        Kit.due("the 13th, with the others ended", x.begin(0, 0), -1);
        Kit.due("nobody is ready", x.queue(0), -1);
        for (int p = 0; p < 12; p++) {
            Kit.due("register 0 of " + p, x.term(p, 0), Kit.AN_INT + p);
        }
    }

    private static void comesToTheEndOfTheQueue() {
        TurnHost x = Kit.host(2, Kit.op(Kit.JUMP, 0));
        x.begin(0, 0);
        x.begin(0, 0);
        x.run(3);
        x.begin(0, 0);
        Kit.due("the one in its turn", x.queue(0), 1);
        Kit.due("then", x.queue(1), 0);
        Kit.due("the new one last", x.queue(2), 2);
    }
}
