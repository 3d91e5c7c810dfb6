/** Promise 6. */
public final class ClearTest {
    public static void main(String[] args) {
        processesGo();
        codeGoesToo();
        nothingIsLeftOfTheOldOnes();
        theTurnGoes();
        howManyThereWere();
        theQuotaStays();
        allTheCodeStaysOrGoes();
        Kit.finish();
    }

    private static void processesGo() {
        TurnHost x = Kit.host(4, Kit.op(Kit.RETURN));
        x.begin(0, 0);
        x.begin(0, 0);
        x.begin(0, 0);
        x.run(1);
        Kit.due("three, an ended one too", x.clear(false), 3);
        Kit.due("none is left", x.processes(), 0);
        Kit.due("none in the queue", x.queue(0), -1);
        Kit.due("none to ask", x.process(0, 0), -1);
        Kit.due("no term", x.term(0, 0), -1);
        Kit.due("no digest", x.digest(0, 0), 0);
        Kit.due("none to run", x.run(15), 0);
        Kit.due("none to tell", x.tell(0, 0), false);
        Kit.due("none to clear", x.clear(false), 0);
        Kit.due("the code stays", x.add(Kit.RETURN, 0, 0, 0), 1);
        Kit.due("numbers begin anew", x.begin(0, 0), 0);
        Kit.due("an ended one's reason is gone", x.term(0, Kit.REASON), -1);
        Kit.due("and its digest", x.digest(0, Kit.REASON), 0);
        x.run(15);
        Kit.due("by the code", x.term(0, Kit.REASON), Kit.NORMAL);
    }

    /** "the code is, too, if code is true" */
    private static void codeGoesToo() {
        TurnHost x = new TurnHost(4);
        for (int k = 0; k < 48; k++) {
            x.add(Kit.JUMP, 0, 0, 0);
        }
        x.begin(0, 0);
        Kit.due("one", x.clear(true), 1);
        x.begin(0, 0);
        Kit.due("no code is left", x.run(15), 1);
        Kit.due("FAULT", x.term(0, Kit.REASON), Kit.FAULT);
        Kit.due("instructions begin anew", x.add(Kit.NIL, 0, 0, 0), 0);
        x.begin(0, 0);
        Kit.due("only the new one is there", x.run(15), 2);
        Kit.due("the code may go without processes", x.clear(true), 2);
        Kit.due("none", x.clear(true), 0);
        Kit.due("and anew", x.add(Kit.NIL, 0, 0, 0), 0);
    }

    private static void nothingIsLeftOfTheOldOnes() {
        TurnHost x = Kit.host(50, Kit.op(Kit.TRAP, 1), Kit.op(Kit.SPAWN, 1, 6, 0), Kit.op(Kit.LINK, 1), Kit.op(Kit.NEXT, 4), Kit.op(Kit.CALL, 5), Kit.op(Kit.JUMP, 5), Kit.op(Kit.END, 0));
        x.begin(0, 5);
        x.tell(0, 5);
        x.run(6);
        Kit.due("linked", x.process(0, Kit.LINKS), 2);
        Kit.due("two", x.clear(false), 2);
        for (int p = 0; p < 2; p++) {
            x.begin(9, 8);
            Kit.due("ready", x.process(p, Kit.STATE), Kit.READY);
            Kit.due("place", x.process(p, Kit.PLACE), 9);
            for (int what = Kit.MARK; what <= Kit.DONE; what++) {
                Kit.due("what " + what + " of " + p, x.process(p, what), 0);
            }
            Kit.due("register 1 of " + p, x.term(p, 1), Kit.THE_NIL);
            Kit.due("message of " + p, x.term(p, Kit.MESSAGE), -1);
            Kit.due("reason of " + p, x.term(p, Kit.REASON), -1);
        }
    }

    private static void theTurnGoes() {
        TurnHost x = Kit.host(4, Kit.op(Kit.JUMP, 0));
        x.begin(0, 0);
        x.run(3);
        x.clear(false);
        x.begin(0, 0);
        x.begin(0, 0);
        x.run(3);
        Kit.due("the new turn is whole", x.queue(0), 0);
        x.run(1);
        Kit.due("and over now", x.queue(0), 1);
    }

    /** "how many processes there were": from none to 12, whatever their states */
    private static void howManyThereWere() {
        for (int count = 0; count <= 12; count++) {
            TurnHost x = Kit.host(1, Kit.op(Kit.RETURN), Kit.op(Kit.WAIT, 1), Kit.op(Kit.JUMP, 2));
            for (int p = 0; p < count; p++) {
                x.begin(p % 3, 0);
            }
            x.run(15);
            Kit.due("so many", x.clear(count % 2 == 0), count);
            Kit.due("none now", x.processes(), 0);
            Kit.due("none in the queue", x.queue(0), -1);
            Kit.due("none again", x.clear(count % 2 == 1), 0);
            for (int p = 0; p < 12; p++) {
                Kit.due("room for 12", x.begin(0, 0), p);
            }
            Kit.due("and no more", x.begin(0, 0), -1);
        }
    }

    /** All processes and the code are gone, and nothing else */
    private static void theQuotaStays() {
        TurnHost x = Kit.host(3, Kit.op(Kit.JUMP, 0));
        x.begin(0, 0);
        x.run(2);
        x.clear(true);
        x.add(Kit.JUMP, 0, 0, 0);
        x.begin(0, 0);
        x.begin(0, 0);
        x.run(2);
        Kit.due("two of three", x.queue(0), 0);
        x.run(1);
        Kit.due("three", x.queue(0), 1);
    }

    /** "the code is, too, if code is true": all 48 of it, or none */
    private static void allTheCodeStaysOrGoes() {
        TurnHost x = Kit.host(50, Kit.join(Kit.times(47, Kit.JUMP, 47), Kit.one(Kit.INT, 1, 7)));
        x.clear(false);
        Kit.due("there are 48 still", x.add(Kit.NIL, 0, 0, 0), -1);
        x.begin(0, 0);
        Kit.due("the first, the last, and none", x.run(15), 3);
        Kit.due("the last was done", x.term(0, 1), Kit.AN_INT + 7);
        x.clear(true);
        for (int k = 0; k < 48; k++) {
            x.begin(k, 0);
            Kit.due("no instruction at " + k, x.run(15), 1);
            x.clear(false);
        }
        for (int k = 0; k < 48; k++) {
            Kit.due("48 anew", x.add(Kit.NIL, 0, 0, 0), k);
        }
        Kit.due("and no more", x.add(Kit.NIL, 0, 0, 0), -1);
    }
}
