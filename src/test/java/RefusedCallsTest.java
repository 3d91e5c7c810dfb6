import java.util.ArrayList;
import java.util.List;
import java.util.function.Function;
import java.util.function.Supplier;

/**
 * "A call that is refused changes nothing." Each call is refused by a host that has a twin, to which it is not made: both must answer alike,
 * asked for all that can be asked at once, and asked again after they have gone on alike. Each host is used for fewer than 512 calls.
 */
public final class RefusedCallsTest {
    /** A call, and what a host answers that refuses it. */
    private record Call(String name, int due, Function<TurnHost, Integer> made) {
    }

    public static void main(String[] args) {
        refusedEverywhere("a new host", () -> new TurnHost(3));
        refusedEverywhere("a busy host", RefusedCallsTest::busy);
        refusedEverywhere("a full host", RefusedCallsTest::full);
        for (Call call : refusedByAFullHost()) {
            changesNothing("a full host", RefusedCallsTest::full, call);
        }
        for (Call call : refusedByABusyHost()) {
            changesNothing("a busy host", RefusedCallsTest::busy, call);
        }
        theScenesAreAsTold();
        Kit.finish();
    }

    private static void theScenesAreAsTold() {
        TurnHost x = busy();
        Kit.due("0 and 3 are ready", Kit.queue(x), "0 3");
        Kit.due("0 is within its turn", x.process(0, Kit.DONE), 10);
        Kit.due("1 waits behind two", x.process(1, Kit.STATE) * 100 + x.process(1, Kit.MARK), 202);
        Kit.due("2 has ended", x.process(2, Kit.STATE), Kit.ENDED);
        Kit.due("3 traps and is linked", x.process(3, Kit.TRAPS) * 10 + x.process(3, Kit.LINKS), 11);
        TurnHost y = full();
        Kit.due("ten are ready", Kit.queue(y), "2 3 4 5 6 7 8 9 10 11");
        Kit.due("2 is within its turn", y.process(2, Kit.DONE), 2);
        Kit.due("1 waits behind twelve", y.process(1, Kit.STATE) * 100 + y.process(1, Kit.MARK), 212);
        Kit.due("0 has ended", y.process(0, Kit.STATE), Kit.ENDED);
        Kit.due("no room for code", y.add(Kit.NIL, 0, 0, 0), -1);
    }

    private static void refusedEverywhere(String name, Supplier<TurnHost> scene) {
        for (Call call : wrongAdds()) {
            changesNothing(name, scene, call);
        }
        for (Call call : wrongNumbers()) {
            changesNothing(name, scene, call);
        }
    }

    private static void changesNothing(String scene, Supplier<TurnHost> made, Call call) {
        String what = scene + ", " + call.name();
        TurnHost x = made.get();
        Kit.due(what, call.made().apply(x), call.due());
        Kit.due(what + ": the state", Kit.state(x), Kit.state(made.get()));
        TurnHost later = made.get();
        call.made().apply(later);
        Kit.due(what + ": what follows", goOn(later), goOn(made.get()));
        TurnHost anew = made.get();
        call.made().apply(anew);
        Kit.due(what + ": what follows anew", goOnAnew(anew), goOnAnew(made.get()));
    }

    /** Shows what can't be asked for: how far the turn is, and how much code there is. */
    private static String goOn(TurnHost x) {
        StringBuilder all = new StringBuilder();
        for (int k = 0; k < 6; k++) {
            all.append(x.run(1)).append(' ').append(x.queue(0)).append(' ');
        }
        all.append(x.add(Kit.JUMP, 0, 0, 0)).append(' ').append(x.begin(0, 9)).append(' ');
        for (int k = 0; k < 4; k++) {
            all.append(x.run(15)).append(' ').append(x.queue(0)).append(' ');
        }
        return all.append(Kit.state(x)).toString();
    }

    /** Shows what the code is, by new processes here and there in it, and that it can go. */
    private static String goOnAnew(TurnHost x) {
        StringBuilder all = new StringBuilder().append(x.clear(false)).append(' ');
        for (int place : new int[] {0, 3, 10, 13, 14, 46, 47}) {
            all.append(x.begin(place, 9)).append(' ').append(x.run(3)).append(' ');
        }
        return all.append(Kit.state(x)).append(x.clear(true)).append(' ').append(x.add(Kit.NIL, 0, 0, 0)).toString();
    }

    /** 0 has done three of a turn of seven, 1 waits behind its two messages, 2 has ended, 3 traps and is linked with 0. */
    private static TurnHost busy() {
        TurnHost x = Kit.host(7, Kit.join(Kit.passOverAndWait(0),
            Kit.one(Kit.SPAWN, 1, 0, 0), Kit.one(Kit.SPAWN, 2, 10, 0), Kit.one(Kit.SPAWN, 3, 11, 2), Kit.one(Kit.LINK, 3), Kit.one(Kit.CALL, 8), Kit.one(Kit.INT, 4, 5), Kit.one(Kit.JUMP, 8),
            Kit.one(Kit.END, 0), Kit.one(Kit.TRAP, 1), Kit.one(Kit.NEXT, 13), Kit.one(Kit.JUMP, 13)));
        x.begin(3, -250);
        x.tell(0, 31);
        x.run(7);
        x.tell(1, 32);
        x.tell(1, 33);
        x.run(14);
        x.run(3);
        return x;
    }

    /** 48 instructions and 12 processes, of which one has ended, one waits with 12 messages, and the others are ready, one within its turn. */
    private static TurnHost full() {
        TurnHost x = Kit.host(3, Kit.join(Kit.passOverAndWait(0), Kit.one(Kit.RETURN), Kit.times(44, Kit.JUMP, 4)));
        x.begin(3, 50);
        x.begin(0, 51);
        for (int k = 0; k < 12; k++) {
            x.tell(1, k);
        }
        x.run(15);
        x.run(12);
        for (int p = 2; p < 12; p++) {
            x.begin(4, 50 + p);
        }
        x.run(2);
        return x;
    }

    private static Call add(int operation, int a, int b, int c) {
        return new Call("add(" + operation + ", " + a + ", " + b + ", " + c + ")", -1, x -> x.add(operation, a, b, c));
    }

    /** "-1, refused, if ... the operation is not 0 .. 26, or one of its numbers is not as told" */
    private static List<Call> wrongAdds() {
        List<Call> all = new ArrayList<>();
        for (int operation : new int[] {Integer.MIN_VALUE, -1, 27, 28, Integer.MAX_VALUE}) {
            all.add(add(operation, 1, 1, 1));
        }
        for (int operation = 0; operation < 27; operation++) {
            for (int which = 0; which < 3; which++) {
                int limit = Kit.limit(operation, which);
                if (limit > 0) {
                    all.add(addWith(operation, which, -1));
                    all.add(addWith(operation, which, limit));
                }
            }
        }
        return all;
    }

    private static Call addWith(int operation, int which, int wrong) {
        int[] n = {1, 1, 1};
        n[which] = wrong;
        return add(operation, n[0], n[1], n[2]);
    }

    /** "l is not 0 .. 47", "no such process", "n is not 1 .. 15", "no such process or what", "if there is none" */
    private static List<Call> wrongNumbers() {
        List<Call> all = new ArrayList<>();
        for (int wrong : new int[] {Integer.MIN_VALUE, -1, 48, 49, Integer.MAX_VALUE}) {
            all.add(new Call("begin(" + wrong + ", 5)", -1, x -> x.begin(wrong, 5)));
            all.add(new Call("run(" + wrong + ")", -1, x -> x.run(wrong)));
            all.add(new Call("tell(" + wrong + ", 5)", 0, x -> x.tell(wrong, 5) ? 1 : 0));
            all.add(new Call("process(" + wrong + ", 0)", -1, x -> x.process(wrong, 0)));
            all.add(new Call("process(0, " + wrong + ")", -1, x -> x.process(0, wrong)));
            all.add(new Call("queue(" + wrong + ")", -1, x -> x.queue(wrong)));
            all.add(new Call("term(" + wrong + ", 0)", -1, x -> x.term(wrong, 0)));
            all.add(new Call("term(0, " + wrong + ")", -1, x -> x.term(0, wrong)));
            all.add(new Call("digest(" + wrong + ", 0)", 0, x -> x.digest(wrong, 0)));
            all.add(new Call("digest(0, " + wrong + ")", 0, x -> x.digest(0, wrong)));
        }
        all.add(new Call("run(0)", -1, x -> x.run(0)));
        all.add(new Call("run(16)", -1, x -> x.run(16)));
        all.add(new Call("tell(12, 5)", 0, x -> x.tell(12, 5) ? 1 : 0));
        all.add(new Call("tell the one behind the last", 0, x -> x.tell(x.processes(), 5) ? 1 : 0));
        return all;
    }

    /** "-1, refused, if there are 48", "-1, refused, if ... there are 12", "false if ... it has ended" */
    private static List<Call> refusedByAFullHost() {
        List<Call> all = new ArrayList<>();
        for (int operation = 0; operation < 27; operation++) {
            all.add(add(operation, 1, 1, 1));
        }
        all.add(new Call("begin(0, 5)", -1, x -> x.begin(0, 5)));
        all.add(new Call("begin(47, 5)", -1, x -> x.begin(47, 5)));
        all.add(new Call("tell one that has ended", 0, x -> x.tell(0, 5) ? 1 : 0));
        all.add(new Call("tell one that has 12 messages: it is lost", 1, x -> x.tell(1, 5) ? 1 : 0));
        return all;
    }

    /** "false if ... it has ended", and what there is none of in this scene */
    private static List<Call> refusedByABusyHost() {
        List<Call> all = new ArrayList<>();
        all.add(new Call("tell one that has ended", 0, x -> x.tell(2, 5) ? 1 : 0));
        all.add(new Call("process(0, 8)", -1, x -> x.process(0, 8)));
        all.add(new Call("the place behind the queue's last", -1, x -> x.queue(2)));
        all.add(new Call("the reason of one that has not ended", -1, x -> x.term(0, Kit.REASON)));
        all.add(new Call("the digest of that", 0, x -> x.digest(0, Kit.REASON)));
        all.add(new Call("the message behind the last", -1, x -> x.term(1, Kit.MESSAGE + 2)));
        all.add(new Call("the digest of that", 0, x -> x.digest(1, Kit.MESSAGE + 2)));
        return all;
    }
}
