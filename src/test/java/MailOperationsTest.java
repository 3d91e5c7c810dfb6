/** Promise 5, operations 17 to 21: messages, and the mark among them. */
public final class MailOperationsTest {
    public static void main(String[] args) {
        sendToItself();
        sendToAnEndedOne();
        sendWakesAtOnce();
        sendToAFullMailbox();
        peek();
        takeInWhateverOrder();
        takeBehindTheLast();
        waitWithAndWithoutMessages();
        Kit.finish();
    }

    private static void sendToItself() {
        TurnHost x = Kit.ran(5, Kit.op(Kit.SELF, 1), Kit.op(Kit.PAIR, 2, 0, 1), Kit.op(Kit.SEND, 1, 2), Kit.op(Kit.SEND, 1, 0), Kit.op(Kit.RETURN));
        Kit.due("both came", x.process(0, Kit.MAIL), 2);
        Kit.due("the pair", x.digest(0, Kit.MESSAGE), x.digest(0, 2));
        Kit.due("the int", x.term(0, Kit.MESSAGE + 1), Kit.AN_INT + 5);
        Kit.due("the mailbox outlives its process", x.process(0, Kit.STATE), Kit.ENDED);
    }

    private static void sendToAnEndedOne() {
        TurnHost x = Kit.host(50, Kit.op(Kit.SPAWN, 1, 5, 0), Kit.op(Kit.WAIT, 2), Kit.op(Kit.SEND, 1, 0), Kit.op(Kit.INT, 2, 7), Kit.op(Kit.RETURN), Kit.op(Kit.RETURN));
        x.begin(0, 5);
        Kit.runOut(x);
        x.tell(0, 0);
        Kit.due("SEND to an ended one goes on", Kit.runOut(x), 3);
        Kit.due("no fault", x.term(0, Kit.REASON), Kit.NORMAL);
        Kit.due("nothing came", x.process(1, Kit.MAIL), 0);
        Kit.due("it is not ready again", x.process(1, Kit.STATE), Kit.ENDED);
    }

    private static void sendWakesAtOnce() {
        TurnHost x = Kit.host(10, Kit.op(Kit.SPAWN, 1, 6, 0), Kit.op(Kit.SPAWN, 2, 6, 0), Kit.op(Kit.WAIT, 3),
            Kit.op(Kit.SEND, 2, 0), Kit.op(Kit.SEND, 1, 0), Kit.op(Kit.JUMP, 5), Kit.op(Kit.WAIT, 6));
        x.begin(0, 5);
        Kit.runOut(x);
        x.tell(0, 1);
        x.run(1);
        Kit.due("woken behind the sender", x.queue(1), 2);
        Kit.due("only that one", x.queue(2), -1);
        x.run(1);
        Kit.due("the sender is first still", x.queue(0), 0);
        Kit.due("the one woken first", x.queue(1), 2);
        Kit.due("the one woken next", x.queue(2), 1);
        Kit.due("ready", x.process(1, Kit.STATE), Kit.READY);
    }

    private static void sendToAFullMailbox() {
        TurnHost x = Kit.host(50, Kit.op(Kit.SELF, 1), Kit.op(Kit.SEND, 1, 0), Kit.op(Kit.JUMP, 1));
        x.begin(0, 5);
        x.run(15);
        x.run(15);
        Kit.due("12 and no more", x.process(0, Kit.MAIL), 12);
        Kit.due("no fault", x.process(0, Kit.STATE), Kit.READY);
    }

    private static void peek() {
        TurnHost x = Kit.host(50, Kit.op(Kit.PEEK, 1, 3), Kit.op(Kit.INT, 2, 1), Kit.op(Kit.RETURN), Kit.op(Kit.INT, 2, 2), Kit.op(Kit.RETURN));
        x.begin(0, 0);
        x.begin(0, 0);
        x.tell(0, 6);
        x.tell(0, 7);
        Kit.runOut(x);
        Kit.due("the message", x.term(0, 1), Kit.AN_INT + 6);
        Kit.due("goes on behind", x.term(0, 2), Kit.AN_INT + 1);
        Kit.due("stays in the mailbox", x.process(0, Kit.MAIL), 2);
        Kit.due("without one, on at l", x.term(1, 2), Kit.AN_INT + 2);
        Kit.due("and the register stays", x.term(1, 1), Kit.THE_NIL);
        Kit.due("no fault", x.term(1, Kit.REASON), Kit.NORMAL);
    }

    private static void takeInWhateverOrder() {
        TurnHost x = Kit.host(50, Kit.op(Kit.NEXT, 1), Kit.op(Kit.NEXT, 3), Kit.op(Kit.RETURN), Kit.op(Kit.PEEK, 1, 2), Kit.op(Kit.TAKE), Kit.op(Kit.PEEK, 2, 2),
            Kit.op(Kit.TAKE), Kit.op(Kit.PEEK, 3, 2), Kit.op(Kit.RETURN));
        x.begin(0, 0);
        for (int k = 0; k < 4; k++) {
            x.tell(0, 10 + k);
        }
        x.run(2);
        Kit.due("NEXT: the mark", x.process(0, Kit.MARK), 2);
        Kit.due("NEXT: on at l", x.process(0, Kit.PLACE), 3);
        x.run(1);
        Kit.due("PEEK at the mark", x.term(0, 1), Kit.AN_INT + 12);
        Kit.due("PEEK leaves the mark", x.process(0, Kit.MARK), 2);
        x.run(1);
        Kit.due("TAKE: the mark is 0", x.process(0, Kit.MARK), 0);
        Kit.due("TAKE: one fewer", x.process(0, Kit.MAIL), 3);
        Kit.due("the first stays", x.term(0, Kit.MESSAGE), Kit.AN_INT + 10);
        Kit.due("the second stays", x.term(0, Kit.MESSAGE + 1), Kit.AN_INT + 11);
        Kit.due("the fourth moves up", x.term(0, Kit.MESSAGE + 2), Kit.AN_INT + 13);
        Kit.due("none behind", x.term(0, Kit.MESSAGE + 3), -1);
        Kit.runOut(x);
        Kit.due("then the oldest", x.term(0, 2), Kit.AN_INT + 10);
        Kit.due("then the next", x.term(0, 3), Kit.AN_INT + 11);
    }

    private static void takeBehindTheLast() {
        TurnHost x = Kit.host(50, Kit.op(Kit.NEXT, 1), Kit.op(Kit.TAKE));
        x.begin(0, 0);
        x.tell(0, 1);
        Kit.due("two reductions", Kit.runOut(x), 2);
        Kit.due("FAULT", x.term(0, Kit.REASON), Kit.FAULT);
        Kit.due("the message stays", x.process(0, Kit.MAIL), 1);
        Kit.due("the mark stays", x.process(0, Kit.MARK), 1);
        TurnHost y = Kit.host(50, Kit.op(Kit.NEXT, 0));
        y.begin(0, 0);
        for (int k = 0; k < 20; k++) {
            y.run(15);
        }
        Kit.due("the mark has no end", y.process(0, Kit.MARK), 300);
    }

    private static void waitWithAndWithoutMessages() {
        TurnHost x = Kit.host(50, Kit.op(Kit.WAIT, 3), Kit.op(Kit.RETURN), Kit.op(Kit.RETURN), Kit.op(Kit.NEXT, 4), Kit.op(Kit.WAIT, 3));
        x.begin(0, 0);
        Kit.due("it waits", x.run(15), 1);
        Kit.due("WAITS", x.process(0, Kit.STATE), Kit.WAITS);
        Kit.due("its place is l", x.process(0, Kit.PLACE), 3);
        Kit.due("out of the queue", x.queue(0), -1);
        Kit.due("nothing to do", x.run(15), 0);
        x.tell(0, 1);
        x.tell(0, 2);
        Kit.due("NEXT, WAIT: one is at the mark; NEXT, WAIT: none", x.run(15), 4);
        Kit.due("the mark", x.process(0, Kit.MARK), 2);
        Kit.due("it waits again", x.process(0, Kit.STATE), Kit.WAITS);
    }
}
