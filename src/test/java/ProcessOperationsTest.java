/** Promise 5, operations 22 to 26: beginnings, links, signals and ends. */
public final class ProcessOperationsTest {
    public static void main(String[] args) {
        spawn();
        spawnBeyond12();
        link();
        linkItself();
        linkAnEndedOne();
        trapOnAndOff();
        normalEndsNobody();
        otherReasonsEndTheLinked();
        faultEndsTheLinked();
        noticeOfAnEnd();
        noticeOfNormal();
        noticeOfAHeavyReason();
        noticeIntoAFullMailbox();
        signalsGoDeepFirst();
        stop();
        stopItself();
        stopALinkedOne();
        stopAnEndedOne();
        Kit.finish();
    }

    private static void spawn() {
        TurnHost x = Kit.host(50, Kit.op(Kit.SPAWN, 0, 3, 0), Kit.op(Kit.SPAWN, 2, 3, 1), Kit.op(Kit.JUMP, 2), Kit.op(Kit.SELF, 1), Kit.op(Kit.RETURN));
        x.begin(0, 42);
        x.run(2);
        Kit.due("its pid", x.term(0, 0), Kit.A_PID + 1);
        Kit.due("its argument is what the register was", x.term(1, 0), Kit.AN_INT + 42);
        Kit.due("the next one's pid", x.term(0, 2), Kit.A_PID + 2);
        Kit.due("the next one's argument", x.term(2, 0), Kit.THE_NIL);
        Kit.due("its place", x.process(1, Kit.PLACE), 3);
        Kit.due("ready", x.process(1, Kit.STATE), Kit.READY);
        Kit.due("queue", x.queue(0) * 100 + x.queue(1) * 10 + x.queue(2), 12);
        Kit.due("not linked", x.process(0, Kit.LINKS) + x.process(1, Kit.LINKS), 0);
        Kit.due("three", x.processes(), 3);
    }

    private static void spawnBeyond12() {
        TurnHost x = Kit.host(50, Kit.op(Kit.SPAWN, 1, 2, 0), Kit.op(Kit.JUMP, 0), Kit.op(Kit.RETURN));
        x.begin(0, 1);
        Kit.due("eleven with their jumps, one too many, eleven ends", Kit.runOut(x), 34);
        Kit.due("FAULT", x.term(0, Kit.REASON), Kit.FAULT);
        Kit.due("the last pid stays", x.term(0, 1), Kit.A_PID + 11);
        Kit.due("twelve", x.processes(), 12);
    }

    private static void link() {
        TurnHost x = Kit.host(50, Kit.op(Kit.SPAWN, 1, 5, 0), Kit.op(Kit.SPAWN, 2, 5, 0), Kit.op(Kit.LINK, 2), Kit.op(Kit.LINK, 2), Kit.op(Kit.JUMP, 4), Kit.op(Kit.JUMP, 5));
        x.begin(0, 1);
        x.run(5);
        Kit.due("its links", x.process(0, Kit.LINKS), 4);
        Kit.due("the other's", x.process(2, Kit.LINKS), 1);
        Kit.due("none", x.process(1, Kit.LINKS), 0);
    }

    private static void linkItself() {
        TurnHost x = Kit.ran(1, Kit.op(Kit.SELF, 1), Kit.op(Kit.LINK, 1), Kit.op(Kit.WAIT, 2));
        Kit.due("nothing", x.process(0, Kit.LINKS), 0);
        Kit.due("it goes on", x.process(0, Kit.STATE), Kit.WAITS);
    }

    private static void linkAnEndedOne() {
        int[][] code = {Kit.op(Kit.TRAP, 0), Kit.op(Kit.SPAWN, 1, 5, 0), Kit.op(Kit.WAIT, 3), Kit.op(Kit.LINK, 1), Kit.op(Kit.WAIT, 4), Kit.op(Kit.RETURN)};
        TurnHost x = Kit.host(50, code);
        x.begin(0, 1);
        Kit.runOut(x);
        x.tell(0, 1);
        Kit.due("one reduction", Kit.runOut(x), 1);
        Kit.due("a signal with FAULT", x.term(0, Kit.REASON), Kit.FAULT);
        Kit.due("no link", x.process(0, Kit.LINKS) + x.process(1, Kit.LINKS), 0);
        code[0] = Kit.op(Kit.TRAP, 1);
        TurnHost y = Kit.host(50, code);
        y.begin(0, 1);
        Kit.runOut(y);
        y.tell(0, 1);
        y.run(1);
        Kit.due("one that traps goes on", y.process(0, Kit.STATE), Kit.READY);
        Kit.due("the notice", y.digest(0, Kit.MESSAGE + 1), Kit.notice(1, 1, 13));
        Kit.due("no link", y.process(0, Kit.LINKS), 0);
    }

    private static void trapOnAndOff() {
        TurnHost x = Kit.host(1, Kit.op(Kit.TRAP, 1), Kit.op(Kit.TRAP, 0), Kit.op(Kit.TRAP, 1), Kit.op(Kit.TRAP, 2), Kit.op(Kit.TRAP, 1), Kit.op(Kit.TRAP, -1));
        x.begin(0, 1);
        Kit.due("at first", x.process(0, Kit.TRAPS), 0);
        for (int k = 0; k < 6; k++) {
            x.run(1);
            Kit.due("after TRAP " + k, x.process(0, Kit.TRAPS), k % 2 == 0 ? 1 : 0);
        }
    }

    /** Process 0 spawns one at 6, links it, and waits; that ends with its register 0, which the two instructions make. */
    private static TurnHost linkedPair(int trap, int[] first, int[] second) {
        TurnHost x = Kit.host(50, Kit.op(Kit.TRAP, trap), Kit.op(Kit.SPAWN, 1, 6, 0), Kit.op(Kit.LINK, 1), Kit.op(Kit.WAIT, 4), Kit.op(Kit.WAIT, 4), Kit.op(Kit.RETURN),
            first, second, Kit.op(Kit.PAIR, 1, 0, 0), Kit.op(Kit.END, 0));
        x.begin(0, 3);
        Kit.runOut(x);
        return x;
    }

    private static void normalEndsNobody() {
        TurnHost x = linkedPair(0, Kit.op(Kit.ATOM, 0, 14), Kit.op(Kit.NIL, 2));
        Kit.due("ended", x.term(1, Kit.REASON), Kit.NORMAL);
        Kit.due("the other waits still", x.process(0, Kit.STATE), Kit.WAITS);
        Kit.due("the link is gone", x.process(0, Kit.LINKS) + x.process(1, Kit.LINKS), 0);
        Kit.due("no notice", x.process(0, Kit.MAIL), 0);
    }

    private static void otherReasonsEndTheLinked() {
        TurnHost x = linkedPair(0, Kit.op(Kit.INT, 0, 14), Kit.op(Kit.NIL, 2));
        Kit.due("the int 14 is not NORMAL", x.term(0, Kit.REASON), Kit.AN_INT + 14);
        Kit.due("no links", x.process(0, Kit.LINKS) + x.process(1, Kit.LINKS), 0);
        TurnHost y = linkedPair(0, Kit.op(Kit.ATOM, 0, 14), Kit.op(Kit.TUPLE, 0, 0, 0));
        Kit.due("a tuple of NORMAL is not NORMAL", y.term(0, Kit.REASON), 5000300);
        Kit.due("the whole reason", y.digest(0, Kit.REASON), y.digest(1, Kit.REASON));
    }

    private static void faultEndsTheLinked() {
        TurnHost x = linkedPair(0, Kit.op(Kit.TAKE), Kit.op(Kit.NIL, 2));
        Kit.due("FAULT there", x.term(1, Kit.REASON), Kit.FAULT);
        Kit.due("FAULT here", x.term(0, Kit.REASON), Kit.FAULT);
        Kit.due("ended", x.process(0, Kit.STATE), Kit.ENDED);
    }

    private static void noticeOfAnEnd() {
        TurnHost x = linkedPair(1, Kit.op(Kit.INT, 0, 77), Kit.op(Kit.NIL, 2));
        Kit.due("a notice", x.process(0, Kit.MAIL), 1);
        Kit.due("of weight 5", x.term(0, Kit.MESSAGE), 5000500);
        Kit.due("the notice", x.digest(0, Kit.MESSAGE), Kit.notice(1, 0, 77));
        Kit.due("it was woken, and spins as there is mail", x.process(0, Kit.STATE), Kit.READY);
        Kit.due("no link", x.process(0, Kit.LINKS), 0);
    }

    private static void noticeOfNormal() {
        TurnHost x = linkedPair(1, Kit.op(Kit.ATOM, 0, 14), Kit.op(Kit.NIL, 2));
        Kit.due("NORMAL is told, too", x.digest(0, Kit.MESSAGE), Kit.notice(1, 1, 14));
    }

    private static void noticeOfAHeavyReason() {
        int[][] code = {Kit.op(Kit.TRAP, 1), Kit.op(Kit.SPAWN, 1, 5, 0), Kit.op(Kit.LINK, 1), Kit.op(Kit.WAIT, 4), Kit.op(Kit.RETURN),
            Kit.op(Kit.PAIR, 1, 0, 0), Kit.op(Kit.PAIR, 1, 1, 0), Kit.op(Kit.PAIR, 1, 1, 0), Kit.op(Kit.PAIR, 1, 1, 0), Kit.op(Kit.PAIR, 1, 1, 0), Kit.op(Kit.END, 1)};
        TurnHost x = Kit.host(50, code);
        x.begin(0, 3);
        Kit.runOut(x);
        Kit.due("weight 11 as it is", x.term(1, Kit.REASON), 4001100);
        Kit.due("told whole", x.term(0, Kit.MESSAGE), 5001500);
        TurnHost y = Kit.host(50, code[0], code[1], code[2], code[3], code[4], code[5], code[6], code[7], code[8], code[9], Kit.op(Kit.PAIR, 1, 0, 1), Kit.op(Kit.END, 1));
        y.begin(0, 3);
        Kit.runOut(y);
        Kit.due("weight 13 as it is", y.term(1, Kit.REASON), 4001300);
        Kit.due("told as FAULT", y.digest(0, Kit.MESSAGE), Kit.notice(1, 1, 13));
    }

    private static void noticeIntoAFullMailbox() {
        TurnHost x = Kit.host(2, Kit.op(Kit.TRAP, 1), Kit.op(Kit.SPAWN, 1, 4, 0), Kit.op(Kit.LINK, 1), Kit.op(Kit.JUMP, 3), Kit.op(Kit.JUMP, 5), Kit.op(Kit.JUMP, 6), Kit.op(Kit.END, 0));
        x.begin(0, 3);
        x.run(3);
        for (int k = 0; k < 12; k++) {
            x.tell(0, k);
        }
        x.run(8);
        Kit.due("it ended", x.process(1, Kit.STATE), Kit.ENDED);
        Kit.due("the link had gone to it", x.process(0, Kit.LINKS), 0);
        Kit.due("12 messages", x.process(0, Kit.MAIL), 12);
        Kit.due("the last is told by tell", x.term(0, Kit.MESSAGE + 11), Kit.AN_INT + 11);
        Kit.due("it goes on", x.process(0, Kit.STATE), Kit.READY);
    }

    /** 0 is linked with 1 and 2, and 1 with 2; 2 traps: it hears of 1, whose end follows from 0's, before it hears of 0. */
    private static void signalsGoDeepFirst() {
        TurnHost x = Kit.host(50,
            Kit.op(Kit.SPAWN, 1, 9, 0), Kit.op(Kit.SPAWN, 2, 7, 0), Kit.op(Kit.LINK, 2), Kit.op(Kit.LINK, 1), Kit.op(Kit.SEND, 1, 2), Kit.op(Kit.WAIT, 6), Kit.op(Kit.END, 0),
            Kit.op(Kit.TRAP, 1), Kit.op(Kit.WAIT, 16),
            Kit.op(Kit.PEEK, 3, 12), Kit.op(Kit.LINK, 3), Kit.op(Kit.WAIT, 13), Kit.op(Kit.RETURN), Kit.op(Kit.NEXT, 14), Kit.op(Kit.WAIT, 13), Kit.op(Kit.NIL, 0), Kit.op(Kit.NIL, 0));
        x.begin(0, 33);
        Kit.runOut(x);
        Kit.due("0 waits", x.process(0, Kit.STATE), Kit.WAITS);
        Kit.due("links of 0", x.process(0, Kit.LINKS), 6);
        Kit.due("links of 1", x.process(1, Kit.LINKS), 5);
        Kit.due("links of 2", x.process(2, Kit.LINKS), 3);
        x.tell(0, 0);
        x.run(1);
        Kit.due("1 ended with the same", x.term(1, Kit.REASON), Kit.AN_INT + 33);
        Kit.due("2 heard twice", x.process(2, Kit.MAIL), 2);
        Kit.due("first of 1", x.digest(2, Kit.MESSAGE), Kit.notice(1, 0, 33));
        Kit.due("then of 0", x.digest(2, Kit.MESSAGE + 1), Kit.notice(0, 0, 33));
        Kit.due("no links", x.process(0, Kit.LINKS) + x.process(1, Kit.LINKS) + x.process(2, Kit.LINKS), 0);
        Kit.due("2 is the only one ready", x.queue(0) * 10 + x.queue(1), 19);
    }

    private static void stop() {
        TurnHost x = Kit.host(50, Kit.op(Kit.SPAWN, 1, 4, 0), Kit.op(Kit.SPAWN, 2, 4, 0), Kit.op(Kit.STOP, 1), Kit.op(Kit.JUMP, 3), Kit.op(Kit.JUMP, 4));
        x.begin(0, 1);
        x.run(3);
        Kit.due("KILLED", x.term(1, Kit.REASON), Kit.KILLED);
        Kit.due("it has left the queue", x.queue(1), 2);
        Kit.due("two are left", x.queue(2), -1);
        Kit.due("it did nothing", x.process(1, Kit.DONE), 0);
        TurnHost y = Kit.host(50, Kit.op(Kit.SPAWN, 1, 5, 0), Kit.op(Kit.WAIT, 2), Kit.op(Kit.STOP, 1), Kit.op(Kit.WAIT, 4), Kit.op(Kit.RETURN), Kit.op(Kit.TRAP, 1), Kit.op(Kit.WAIT, 7));
        y.begin(0, 1);
        Kit.runOut(y);
        y.tell(0, 1);
        y.run(1);
        Kit.due("one that traps hears of it", y.digest(1, Kit.MESSAGE), Kit.notice(0, 1, 12));
        Kit.due("and is ready", y.process(1, Kit.STATE), Kit.READY);
    }

    private static void stopItself() {
        TurnHost x = Kit.ran(1, Kit.op(Kit.SELF, 1), Kit.op(Kit.STOP, 1), Kit.op(Kit.NIL, 1));
        Kit.due("KILLED", x.term(0, Kit.REASON), Kit.KILLED);
        Kit.due("two reductions", x.process(0, Kit.DONE), 2);
        TurnHost y = Kit.ran(1, Kit.op(Kit.TRAP, 1), Kit.op(Kit.SELF, 1), Kit.op(Kit.STOP, 1), Kit.op(Kit.RETURN));
        Kit.due("it traps", y.digest(0, Kit.MESSAGE), Kit.notice(0, 1, 12));
        Kit.due("and goes on", y.term(0, Kit.REASON), Kit.NORMAL);
    }

    private static void stopALinkedOne() {
        TurnHost x = Kit.host(50, Kit.op(Kit.SPAWN, 1, 4, 0), Kit.op(Kit.LINK, 1), Kit.op(Kit.STOP, 1), Kit.op(Kit.JUMP, 3), Kit.op(Kit.JUMP, 4));
        x.begin(0, 1);
        Kit.due("its end comes back to the one that stopped it", x.run(15), 3);
        Kit.due("KILLED", x.term(0, Kit.REASON), Kit.KILLED);
        Kit.due("KILLED", x.term(1, Kit.REASON), Kit.KILLED);
    }

    private static void stopAnEndedOne() {
        TurnHost x = Kit.host(50, Kit.op(Kit.SPAWN, 1, 4, 0), Kit.op(Kit.WAIT, 2), Kit.op(Kit.STOP, 1), Kit.op(Kit.RETURN), Kit.op(Kit.END, 0));
        x.begin(0, 1);
        Kit.runOut(x);
        x.tell(0, 1);
        Kit.due("goes on", Kit.runOut(x), 2);
        Kit.due("without a fault", x.term(0, Kit.REASON), Kit.NORMAL);
        Kit.due("its reason stays", x.term(1, Kit.REASON), Kit.AN_INT + 1);
    }
}
