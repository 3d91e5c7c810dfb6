/** The edges that the paragraph on ENDS and SIGNAL names; above each test the words that it tests. */
public final class EndEdgesTest {
    private static final int[][] END_WITH_IT = Kit.one(Kit.END, 1);

    public static void main(String[] args) {
        leavesTheQueueFromAnywhere();
        oneThatWaitsEndsToo();
        byRisingNumbers();
        theLinkGoesOnBothSides();
        linksOfOthersStay();
        process11AndProcess0();
        allThatFollowsBeforeTheNext();
        allLinkedWithAll();
        aChainOfTwelve();
        aRingOfTwelve();
        aRingWithOneThatTraps();
        atAnEndedOneNothing();
        noticesAndTheirWeight();
        noticeIntoAFullMailbox();
        noticeToAFullOneThatWaits();
        noticeMakesReady();
        normalIsToldToOneThatTraps();
        onlyTheAtomNormalIsNormal();
        theWholeReasonGoesOn();
        killedGoesOn();
        Kit.finish();
    }

    /**
     * So many processes, at most 8, those of the mask trapping, with links such as "01 13"; all of them wait, and none has a message.
     * One that is told an int takes it into register 1 and does the last instructions, which are to end it.
     */
    private static TurnHost linked(int count, int traps, String links, int[][] last) {
        int[][] reader = {Kit.op(Kit.PEEK, 1, 5), Kit.op(Kit.TAKE), Kit.op(Kit.IS, 1, 2, 8), Kit.op(Kit.LINK, 1), Kit.op(Kit.JUMP, 0), Kit.op(Kit.WAIT, 0), Kit.op(Kit.TRAP, 1), Kit.op(Kit.JUMP, 0)};
        TurnHost x = Kit.host(50, Kit.join(reader, last));
        // Process 0 makes the others, with the pid of p in register p, and lets each know with whom to link.
        x.add(Kit.SELF, 0, 0, 0);
        for (int p = 1; p < count; p++) {
            x.add(Kit.SPAWN, p, (traps >> p & 1) == 1 ? 6 : 0, 0);
        }
        for (String pair : links.split(" ")) {
            x.add(Kit.SEND, pair.charAt(0) - '0', pair.charAt(1) - '0', 0);
        }
        Kit.due("the code has room", x.add(Kit.JUMP, (traps & 1) == 1 ? 6 : 0, 0, 0) > 0, true);
        x.begin(8 + last.length, 0);
        Kit.runOut(x);
        for (int p = 0; p < count; p++) {
            Kit.due("it waits without messages", x.process(p, Kit.STATE) * 100 + x.process(p, Kit.MAIL), 100 * Kit.WAITS);
        }
        return x;
    }

    /** The process, told an int, goes on to its end, and none does anything behind that. */
    private static void endNow(TurnHost x, int p, int n, int[][] last) {
        x.tell(p, n);
        int all = 3 + last.length;
        while (all > 0) {
            all -= x.run(Math.min(all, 15));
        }
        Kit.due("it has ended", x.process(p, Kit.STATE), Kit.ENDED);
    }

    /** "it leaves the queue": at the first place, in the midst, at the last */
    private static void leavesTheQueueFromAnywhere() {
        String[] due = {"1 2 3", "0 2 3", "0 1 3", "0 1 2"};
        for (int p = 0; p < 4; p++) {
            TurnHost x = Kit.host(50, Kit.op(Kit.SELF, 0), Kit.op(Kit.SPAWN, 1, 6, 0), Kit.op(Kit.SPAWN, 2, 6, 0), Kit.op(Kit.SPAWN, 3, 6, 0), Kit.op(Kit.STOP, p), Kit.op(Kit.JUMP, 5), Kit.op(Kit.JUMP, 6));
            x.begin(0, 0);
            x.run(5);
            Kit.due("without " + p, Kit.queue(x), due[p]);
            x.run(1);
            Kit.due("the turn is the first one's", Kit.queue(x), due[p]);
        }
    }

    /** "A process ENDS": one that waits, too; nothing makes it ready then */
    private static void oneThatWaitsEndsToo() {
        TurnHost x = linked(3, 0, "01", END_WITH_IT);
        endNow(x, 0, 7, END_WITH_IT);
        Kit.due("the linked one has ended", x.process(1, Kit.STATE), Kit.ENDED);
        Kit.due("with the reason", x.term(1, Kit.REASON), Kit.AN_INT + 7);
        Kit.due("tell", x.tell(1, 1), false);
        Kit.due("nobody is ready", x.run(15), 0);
        Kit.due("the one without a link waits", x.process(2, Kit.STATE), Kit.WAITS);
    }

    /** "for each process that is linked with it then, by rising numbers": however the links came, and on both sides of its own number */
    private static void byRisingNumbers() {
        for (String links : new String[] {"30 31 32 34 35 36 37", "37 36 35 34 32 31 30", "35 03 37 31 43 36 32"}) {
            TurnHost x = linked(8, 0xF7, links, END_WITH_IT);
            Kit.due("its links", x.process(3, Kit.LINKS), 0xF7);
            endNow(x, 3, 7, END_WITH_IT);
            Kit.due("those that trap are ready in the order of the signals", Kit.queue(x), "0 1 2 4 5 6 7");
        }
    }

    /** "the link goes": of the ended one and of the other, whether that ends, traps, or does nothing */
    private static void theLinkGoesOnBothSides() {
        int[][] normal = {Kit.op(Kit.ATOM, 1, 14), Kit.op(Kit.END, 1)};
        for (int[][] last : new int[][][] {END_WITH_IT, normal}) {
            TurnHost x = linked(4, 2, "01 02 03", last);
            Kit.due("links", x.process(0, Kit.LINKS), 14);
            endNow(x, 0, 7, last);
            for (int p = 0; p < 4; p++) {
                Kit.due("no link of " + p, x.process(p, Kit.LINKS), 0);
            }
            Kit.due("one notice for the one that traps", x.process(1, Kit.MAIL), 1);
        }
    }

    /** "for each process that is linked with it": other links stay */
    private static void linksOfOthersStay() {
        TurnHost x = linked(4, 5, "10 12 02 23", END_WITH_IT);
        endNow(x, 1, 7, END_WITH_IT);
        Kit.due("links of 0", x.process(0, Kit.LINKS), 4);
        Kit.due("links of 2", x.process(2, Kit.LINKS), 9);
        Kit.due("links of 3", x.process(3, Kit.LINKS), 4);
        Kit.due("3 waits, as it had no link", x.process(3, Kit.STATE), Kit.WAITS);
    }

    /** "linked with it then": the first and the last number that a process can have, whichever ends first */
    private static void process11AndProcess0() {
        for (int first : new int[] {0, 11}) {
            TurnHost x = Kit.host(50, Kit.op(Kit.WAIT, 1), Kit.op(Kit.TAKE), Kit.op(Kit.SPAWN, 1, 5, 0), Kit.op(Kit.LINK, 1), Kit.op(Kit.WAIT, 6), Kit.op(Kit.WAIT, 6), Kit.op(Kit.END, 0));
            for (int p = 0; p < 11; p++) {
                x.begin(0, 30 + p);
            }
            x.run(11);
            x.tell(0, 0);
            Kit.due("four of 0, and one of 11", x.run(15), 5);
            Kit.due("links of 0", x.process(0, Kit.LINKS), 2048);
            Kit.due("links of 11", x.process(11, Kit.LINKS), 1);
            x.tell(first, 0);
            Kit.due("one ends, and so the other", x.run(15), 1);
            Kit.due("0 ended", x.term(0, Kit.REASON), Kit.AN_INT + 30);
            Kit.due("11 ended", x.term(11, Kit.REASON), Kit.AN_INT + 30);
            Kit.due("no links", x.process(0, Kit.LINKS) + x.process(11, Kit.LINKS), 0);
            Kit.due("nobody is ready", Kit.queue(x), "");
        }
    }

    /** "with all that follows from it before the next one" */
    private static void allThatFollowsBeforeTheNext() {
        TurnHost x = linked(5, 8 + 16, "01 03 04 12 14 23", END_WITH_IT);
        endNow(x, 0, 7, END_WITH_IT);
        Kit.due("3 hears first of 2, whose end follows from that of 1", x.digest(3, Kit.MESSAGE), Kit.notice(2, 0, 7));
        Kit.due("then of 0", x.digest(3, Kit.MESSAGE + 1), Kit.notice(0, 0, 7));
        Kit.due("4 hears first of 1", x.digest(4, Kit.MESSAGE), Kit.notice(1, 0, 7));
        Kit.due("then of 0", x.digest(4, Kit.MESSAGE + 1), Kit.notice(0, 0, 7));
        Kit.due("no more", x.process(3, Kit.MAIL) + x.process(4, Kit.MAIL), 4);
        Kit.due("ready in that order", Kit.queue(x), "3 4");
    }

    /** "with all that follows from it before the next one": 0 ends 1, that 2, and so on; the last one hears of them all, backwards */
    private static void allLinkedWithAll() {
        String links = "01 02 03 04 05 06 07 12 13 14 15 16 17 23 24 25 26 27 34 35 36 37 45 46 47 56 57 67";
        TurnHost x = linked(8, 128, links, END_WITH_IT);
        endNow(x, 0, 7, END_WITH_IT);
        for (int p = 0; p < 7; p++) {
            Kit.due(p + " ended", x.term(p, Kit.REASON), Kit.AN_INT + 7);
            Kit.due("7 heard of " + p, x.digest(7, Kit.MESSAGE + 6 - p), Kit.notice(p, 0, 7));
        }
        Kit.due("seven notices", x.process(7, Kit.MAIL), 7);
        Kit.due("no links", x.process(7, Kit.LINKS), 0);
        Kit.due("the only one that is ready, and there once", Kit.queue(x), "7");
    }

    private static final int SPAWN_NEXT = 1;
    private static final int LINK_FIRST = 2;
    private static final int START_TO_TRAP = 3;

    /** Twelve, each linked with the one that it has spawned; told one of these three, they do that; told another int, they end with it. */
    private static TurnHost twelveInAChain() {
        TurnHost x = Kit.host(50, Kit.op(Kit.IS, 0, 4, 5), Kit.op(Kit.FIRST, 4, 0), Kit.op(Kit.SECOND, 5, 0), Kit.op(Kit.LINK, 4), Kit.op(Kit.JUMP, 6), Kit.op(Kit.SELF, 5),
            Kit.op(Kit.SELF, 1), Kit.op(Kit.PAIR, 6, 1, 5), Kit.op(Kit.WAIT, 9), Kit.op(Kit.PEEK, 3, 8), Kit.op(Kit.TAKE),
            Kit.op(Kit.INT, 2, SPAWN_NEXT), Kit.op(Kit.SAME, 3, 2, 15), Kit.op(Kit.SPAWN, 2, 0, 6), Kit.op(Kit.JUMP, 8),
            Kit.op(Kit.INT, 2, LINK_FIRST), Kit.op(Kit.SAME, 3, 2, 19), Kit.op(Kit.LINK, 5), Kit.op(Kit.JUMP, 8),
            Kit.op(Kit.INT, 2, START_TO_TRAP), Kit.op(Kit.SAME, 3, 2, 23), Kit.op(Kit.TRAP, 1), Kit.op(Kit.JUMP, 8), Kit.op(Kit.END, 3));
        x.begin(0, 0);
        for (int p = 0; p < 11; p++) {
            Kit.runOut(x);
            x.tell(p, SPAWN_NEXT);
        }
        Kit.runOut(x);
        Kit.due("twelve", x.processes(), 12);
        return x;
    }

    private static void allEnded(TurnHost x, int reason) {
        for (int p = 0; p < 12; p++) {
            Kit.due(p + " ended", x.term(p, Kit.REASON), reason);
            Kit.due(p + " has no links", x.process(p, Kit.LINKS), 0);
        }
        Kit.due("nobody is ready", Kit.queue(x), "");
    }

    /** "with all that follows from it": through as many as there can be, from either end and from the midst */
    private static void aChainOfTwelve() {
        for (int p : new int[] {0, 5, 11}) {
            TurnHost x = twelveInAChain();
            Kit.due("links of 5", x.process(5, Kit.LINKS), 16 + 64);
            x.tell(p, 77);
            Kit.runOut(x);
            allEnded(x, Kit.AN_INT + 77);
        }
        TurnHost x = twelveInAChain();
        x.tell(11, SPAWN_NEXT);
        Kit.runOut(x);
        allEnded(x, Kit.FAULT);
    }

    /** "if q has ended, nothing": a ring comes back to where it began, and stops there */
    private static void aRingOfTwelve() {
        for (int p : new int[] {0, 5, 11}) {
            TurnHost x = twelveInAChain();
            x.tell(11, LINK_FIRST);
            Kit.runOut(x);
            Kit.due("links of 0", x.process(0, Kit.LINKS), 2 + 2048);
            x.tell(p, 77);
            Kit.runOut(x);
            allEnded(x, Kit.AN_INT + 77);
        }
    }

    /** "if q traps": it holds the ring up, and hears of both its neighbours, of the one on the way of the lower number first */
    private static void aRingWithOneThatTraps() {
        TurnHost x = twelveInAChain();
        x.tell(11, LINK_FIRST);
        Kit.runOut(x);
        x.tell(5, START_TO_TRAP);
        Kit.runOut(x);
        x.tell(0, 77);
        Kit.due("nine of process 0, the last its END", x.run(9), 9);
        Kit.due("ready", Kit.queue(x), "5");
        Kit.due("two notices", x.process(5, Kit.MAIL), 2);
        Kit.due("of 4", x.digest(5, Kit.MESSAGE), Kit.notice(4, 0, 77));
        Kit.due("of 6", x.digest(5, Kit.MESSAGE + 1), Kit.notice(6, 0, 77));
        Kit.due("no links", x.process(5, Kit.LINKS), 0);
    }

    /** "if q has ended, nothing": no other reason, no message, no place in the queue */
    private static void atAnEndedOneNothing() {
        for (int traps = 0; traps < 2; traps++) {
            // Told the int 0, process 0 ends with it; told another one, a process stops the one that is its register 0: process 0.
            int[][] last = {Kit.op(Kit.INT, 2, 0), Kit.op(Kit.SAME, 1, 2, 11), Kit.op(Kit.END, 1), Kit.op(Kit.STOP, 0), Kit.op(Kit.END, 1)};
            TurnHost x = linked(2, traps, "00", last);
            x.tell(0, 0);
            Kit.runOut(x);
            Kit.due("0 ended", x.term(0, Kit.REASON), Kit.AN_INT);
            String before = Kit.state(x, 0);
            x.tell(1, 9);
            Kit.due("six, STOP among them, and its end", Kit.runOut(x), 7);
            Kit.due("0 is as it was", Kit.state(x, 0), before);
            Kit.due("STOP was no fault", x.term(1, Kit.REASON), Kit.AN_INT + 9);
        }
    }

    /** "the message TUPLE of EXIT and TUPLE of p's pid and r ... (r being FAULT, if it would weigh too much)" */
    private static void noticesAndTheirWeight() {
        for (int weight = 1; weight <= 15; weight += 2) {
            int[][] last = Kit.join(Kit.one(Kit.INT, 0, 6), Kit.chain(2, weight), Kit.one(Kit.END, 2));
            TurnHost x = linked(2, 1, "01", last);
            endNow(x, 1, 7, last);
            boolean told = weight <= 11;
            Kit.due("its reason is whole", x.term(1, Kit.REASON) % 1000000 / 100, weight);
            Kit.due("the notice of weight " + weight, x.term(0, Kit.MESSAGE), 5000000 + 100 * (told ? weight + 4 : 5));
            Kit.due("what it holds", x.digest(0, Kit.MESSAGE), told ? noticeOfChain(1, weight, 6) : Kit.notice(1, 1, 13));
            Kit.due("one notice", x.process(0, Kit.MAIL), 1);
        }
    }

    private static int noticeOfChain(int pid, int weight, int leaf) {
        int pairs = (weight - 1) / 2;
        int[] steps = new int[6 + pairs + 2 * (pairs + 1)];
        System.arraycopy(new int[] {6, 2, 15, 6, 3, pid}, 0, steps, 0, 6);
        for (int k = 0; k < pairs; k++) {
            steps[6 + k] = 5;
        }
        for (int k = 6 + pairs; k < steps.length; k += 2) {
            steps[k] = 1;
            steps[k + 1] = leaf;
        }
        return Kit.mix(steps);
    }

    /** "comes to it as by SEND": the twelfth comes, a thirteenth is lost, and the link goes all the same */
    private static void noticeIntoAFullMailbox() {
        for (int messages = 11; messages <= 12; messages++) {
            TurnHost x = linked(2, 1, "01", END_WITH_IT);
            x.tell(1, 7);
            for (int k = 0; k < messages; k++) {
                x.tell(0, k);
            }
            x.run(4);
            Kit.due("12 messages", x.process(0, Kit.MAIL), 12);
            Kit.due("the last", x.digest(0, Kit.MESSAGE + 11), messages == 11 ? Kit.notice(1, 0, 7) : Kit.mix(1, 11));
            Kit.due("no link", x.process(0, Kit.LINKS), 0);
            Kit.due("it is ready", Kit.queue(x), "0");
        }
    }

    /** "comes to it as by SEND": one that waits behind its twelve messages does not hear of it */
    private static void noticeToAFullOneThatWaits() {
        for (int messages = 11; messages <= 12; messages++) {
            TurnHost x = Kit.host(50, Kit.join(Kit.one(Kit.TRAP, 1), Kit.one(Kit.SPAWN, 1, 6, 0), Kit.one(Kit.LINK, 1), Kit.passOverAndWait(3), Kit.one(Kit.WAIT, 7), Kit.one(Kit.END, 0)));
            x.begin(0, 7);
            for (int k = 0; k < messages; k++) {
                x.tell(0, k);
            }
            Kit.runOut(x);
            Kit.due("both wait", x.process(0, Kit.STATE) + x.process(1, Kit.STATE), 2 * Kit.WAITS);
            x.tell(1, 0);
            x.run(1);
            Kit.due("it ended", x.term(1, Kit.REASON), Kit.AN_INT + 7);
            Kit.due("12 messages", x.process(0, Kit.MAIL), 12);
            Kit.due("ready with the twelfth alone", Kit.queue(x), messages == 11 ? "0" : "");
            Kit.due("no link", x.process(0, Kit.LINKS), 0);
        }
    }

    /** "comes to it as by SEND": if it waits, it is ready, at the end of the queue */
    private static void noticeMakesReady() {
        TurnHost x = linked(3, 1, "01", END_WITH_IT);
        x.tell(1, 7);
        x.tell(2, 7);
        x.run(4);
        Kit.due("behind the one that was there", Kit.queue(x), "2 0");
    }

    /** "if q traps, the message ...; else, if r is the atom NORMAL, nothing": the first comes first */
    private static void normalIsToldToOneThatTraps() {
        int[][] last = {Kit.op(Kit.RETURN)};
        TurnHost x = linked(3, 1, "01 12", last);
        endNow(x, 1, 7, last);
        Kit.due("NORMAL", x.term(1, Kit.REASON), Kit.NORMAL);
        Kit.due("told to the one that traps", x.digest(0, Kit.MESSAGE), Kit.notice(1, 1, 14));
        Kit.due("nothing for the other", x.process(2, Kit.MAIL), 0);
        Kit.due("which waits still", x.process(2, Kit.STATE), Kit.WAITS);
        Kit.due("and has no reason", x.term(2, Kit.REASON), -1);
    }

    /** "if r is the atom NORMAL, nothing; else q ends with r": no other atom, no int 14, no term that holds NORMAL */
    private static void onlyTheAtomNormalIsNormal() {
        for (int atom = 0; atom <= 15; atom++) {
            int[][] last = {Kit.op(Kit.ATOM, 2, atom), Kit.op(Kit.END, 2)};
            TurnHost x = linked(2, 0, "01", last);
            endNow(x, 1, 7, last);
            Kit.due("the atom " + atom, x.term(0, Kit.REASON), atom == 14 ? -1 : Kit.AN_ATOM + atom);
        }
        TurnHost y = linked(2, 0, "01", END_WITH_IT);
        endNow(y, 1, 14, END_WITH_IT);
        Kit.due("the int 14", y.term(0, Kit.REASON), Kit.AN_INT + 14);
        for (int operation = Kit.PAIR; operation <= Kit.TUPLE; operation++) {
            int[][] last = {Kit.op(Kit.ATOM, 2, 14), Kit.op(operation, 2, 2, 2), Kit.op(Kit.END, 2)};
            TurnHost z = linked(2, 0, "01", last);
            endNow(z, 1, 7, last);
            Kit.due("two NORMALs in one", z.term(0, Kit.REASON), 1000000 * (operation - 1) + 300);
        }
    }

    /** "else q ends with r": as it is, be it too heavy for a notice */
    private static void theWholeReasonGoesOn() {
        int[][] last = Kit.join(Kit.chain(2, 15), Kit.one(Kit.END, 2));
        TurnHost x = linked(4, 8, "01 12 23", last);
        endNow(x, 0, 7, last);
        for (int p = 0; p < 3; p++) {
            Kit.due("the reason of " + p, x.term(p, Kit.REASON), 4001500);
            Kit.due("the parts of it", x.digest(p, Kit.REASON), x.digest(0, 2));
        }
        Kit.due("the one that traps hears FAULT", x.digest(3, Kit.MESSAGE), Kit.notice(2, 1, 13));
    }

    /** "else q ends with r": KILLED comes to one that is linked as to the one that was stopped */
    private static void killedGoesOn() {
        int[][] last = {Kit.op(Kit.SELF, 2), Kit.op(Kit.STOP, 2)};
        TurnHost x = linked(4, 8, "01 12 23", last);
        endNow(x, 0, 7, last);
        for (int p = 0; p < 3; p++) {
            Kit.due("the reason of " + p, x.term(p, Kit.REASON), Kit.KILLED);
        }
        Kit.due("the one that traps hears of it", x.digest(3, Kit.MESSAGE), Kit.notice(2, 1, 12));
    }
}
