import java.util.ArrayDeque;
import java.util.ArrayList;
import java.util.Deque;
import java.util.List;
import java.util.TreeSet;

/** The document once more, written for plainness with Java's collections, to hold TurnHost against. */
final class Model {
    record Term(int sort, int number, List<Term> parts) {
        static Term of(int sort, int number) {
            return new Term(sort, number, List.of());
        }

        static Term atom(int number) {
            return of(1, number);
        }

        int weight() {
            return 1 + parts.stream().mapToInt(Term::weight).sum();
        }

        List<Integer> steps() {
            List<Integer> all = new ArrayList<>();
            all.add(sort + 1);
            if (sort <= 2) {
                all.add(number);
            }
            parts.forEach(part -> all.addAll(part.steps()));
            return all;
        }
    }

    /** What the document calls FAULT: the operation can't be done. */
    private static final class Fault extends RuntimeException {
        private static final long serialVersionUID = 1L;
    }

    private static final class One {
        int place;
        int mark;
        int done;
        int state = 1;
        boolean traps;
        Term reason;
        final Term[] registers = new Term[8];
        final Deque<Integer> returns = new ArrayDeque<>();
        final List<Term> mail = new ArrayList<>();
        final TreeSet<Integer> links = new TreeSet<>();
    }

    private static final List<String> NUMBERS = List.of(
        "r..", "rt.", "rr.", "r..", "r..", "rrr", "rrr", "rr.", "rr.", "rrr", "rrr", "rrl", "rrl", "rsl", "l..", "l..", "...",
        "rr.", "rl.", "...", "l..", "l..", "rlr", "r..", "...", "r..", "r..");

    private final int quota;
    private final List<int[]> code = new ArrayList<>();
    private final List<One> all = new ArrayList<>();
    private final List<Integer> queue = new ArrayList<>();
    private int left;

    /** How often each thing has come about, so that a test can see that its runs reach it. */
    final java.util.TreeMap<String, Integer> seen;

    Model(int quota, java.util.TreeMap<String, Integer> seen) {
        this.quota = quota < 1 || quota > 50 ? 8 : quota;
        this.left = this.quota;
        this.seen = seen;
    }

    private void note(String what) {
        seen.merge(what, 1, Integer::sum);
    }

    int add(int operation, int a, int b, int c) {
        if (code.size() == 48 || operation < 0 || operation > 26) {
            return -1;
        }
        int[] given = {a, b, c};
        for (int k = 0; k < 3; k++) {
            int most = switch (NUMBERS.get(operation).charAt(k)) {
                case 'r' -> 7;
                case 't' -> 15;
                case 's' -> 5;
                case 'l' -> 47;
                default -> -1;
            };
            if (most >= 0 && (given[k] < 0 || given[k] > most)) {
                return -1;
            }
        }
        code.add(new int[] {operation, a, b, c});
        return code.size() - 1;
    }

    int begin(int l, int n) {
        return l < 0 || l > 47 || all.size() == 12 ? -1 : born(l, Term.of(0, n));
    }

    private int born(int l, Term argument) {
        One one = new One();
        one.place = l;
        java.util.Arrays.fill(one.registers, Term.of(3, 0));
        one.registers[0] = argument;
        all.add(one);
        queue.add(all.size() - 1);
        return all.size() - 1;
    }

    boolean tell(int p, int n) {
        if (p < 0 || p >= all.size() || all.get(p).state == 3) {
            return false;
        }
        post(p, Term.of(0, n));
        return true;
    }

    private void post(int q, Term message) {
        One to = all.get(q);
        if (to.state == 3) {
            note("post to an ended one");
        } else if (to.mail.size() == 12) {
            note(to.state == 2 ? "post to a full one that waits" : "post to a full one");
        } else {
            to.mail.add(message);
            if (to.state == 2) {
                note("woken");
                to.state = 1;
                queue.add(q);
            }
        }
    }

    private void die(int p, Term reason) {
        One one = all.get(p);
        one.state = 3;
        one.reason = reason;
        queue.remove((Integer) p);
        List<Integer> then = new ArrayList<>(one.links);
        if (then.size() > 1) {
            note("end with several links");
        }
        for (int q : then) {
            one.links.remove(q);
            all.get(q).links.remove(p);
            signal(p, q, reason);
        }
    }

    private void signal(int p, int q, Term reason) {
        One to = all.get(q);
        if (to.state == 3) {
            note("signal to an ended one");
        } else if (to.traps) {
            boolean heavy = reason.weight() > 11;
            note(heavy ? "heavy notice" : "notice");
            Term inner = new Term(5, 0, List.of(Term.of(2, p), heavy ? Term.atom(13) : reason));
            post(q, new Term(5, 0, List.of(Term.atom(15), inner)));
        } else if (reason.equals(Term.atom(14))) {
            note("NORMAL passes");
        } else {
            note("ended by a signal");
            die(q, reason);
        }
    }

    int run(int n) {
        if (n < 1 || n > 15) {
            return -1;
        }
        int done = 0;
        for (; done < n && !queue.isEmpty(); done++) {
            int p = queue.get(0);
            step(p);
            left--;
            if (all.get(p).state != 1) {
                left = quota;
            } else if (left == 0) {
                note("turn over");
                queue.remove(0);
                queue.add(p);
                left = quota;
            }
        }
        return done;
    }

    private void step(int p) {
        One one = all.get(p);
        one.done++;
        if (one.place >= code.size()) {
            note("no instruction");
            die(p, Term.atom(13));
            return;
        }
        int[] i = code.get(one.place++);
        try {
            work(p, one, i[0], i[1], i[2], i[3]);
            note("done " + i[0]);
        } catch (Fault f) {
            note("fault in " + i[0]);
            die(p, Term.atom(13));
        }
    }

    private static Term need(boolean holds, Term t) {
        if (!holds) {
            throw new Fault();
        }
        return t;
    }

    private static int number(Term t) {
        return need(t.sort == 0, t).number;
    }

    private int pid(Term t) {
        return need(t.sort == 2 && t.number < all.size(), t).number;
    }

    private static Term light(Term t) {
        return need(t.weight() <= 15, t);
    }

    private void work(int p, One one, int operation, int a, int b, int c) {
        Term[] r = one.registers;
        switch (operation) {
            case 0 -> r[a] = Term.of(0, b);
            case 1 -> r[a] = Term.atom(b);
            case 2 -> r[a] = r[b];
            case 3 -> r[a] = Term.of(2, p);
            case 4 -> r[a] = Term.of(3, 0);
            case 5, 6 -> r[a] = light(new Term(operation - 1, 0, List.of(r[b], r[c])));
            case 7, 8 -> r[a] = need(r[b].sort >= 4, r[b]).parts.get(operation - 7);
            case 9 -> r[a] = Term.of(0, number(r[b]) + number(r[c]));
            case 10 -> r[a] = Term.of(0, number(r[b]) - number(r[c]));
            case 11 -> one.place = number(r[a]) < number(r[b]) ? one.place : c;
            case 12 -> one.place = r[a].equals(r[b]) ? one.place : c;
            case 13 -> one.place = r[a].sort == b ? one.place : c;
            case 14 -> one.place = a;
            case 15 -> {
                need(one.returns.size() < 6, null);
                one.returns.push(one.place);
                one.place = a;
            }
            case 16 -> {
                if (one.returns.isEmpty()) {
                    die(p, Term.atom(14));
                } else {
                    one.place = one.returns.pop();
                }
            }
            case 17 -> post(pid(r[a]), r[b]);
            case 18 -> {
                if (one.mark < one.mail.size()) {
                    r[a] = one.mail.get(one.mark);
                } else {
                    one.place = b;
                }
            }
            case 19 -> {
                need(one.mark < one.mail.size(), null);
                one.mail.remove(one.mark);
                one.mark = 0;
            }
            case 20 -> {
                one.mark++;
                one.place = a;
            }
            case 21 -> {
                one.place = a;
                if (one.mark >= one.mail.size()) {
                    note("waits");
                    one.state = 2;
                    queue.remove((Integer) p);
                }
            }
            case 22 -> {
                need(all.size() < 12, null);
                r[a] = Term.of(2, born(b, r[c]));
            }
            case 23 -> {
                int q = pid(r[a]);
                if (q != p && all.get(q).state == 3) {
                    note("link with an ended one");
                    signal(q, p, Term.atom(13));
                } else if (q != p) {
                    one.links.add(q);
                    all.get(q).links.add(p);
                }
            }
            case 24 -> one.traps = a == 1;
            case 25 -> die(p, r[a]);
            default -> signal(p, pid(r[a]), Term.atom(12));
        }
    }

    int clear(boolean alsoCode) {
        int gone = all.size();
        all.clear();
        queue.clear();
        left = quota;
        if (alsoCode) {
            code.clear();
        }
        return gone;
    }

    int process(int p, int what) {
        if (p < 0 || p >= all.size()) {
            return -1;
        }
        One one = all.get(p);
        return switch (what) {
            case 0 -> one.state;
            case 1 -> one.place;
            case 2 -> one.mark;
            case 3 -> one.mail.size();
            case 4 -> one.returns.size();
            case 5 -> one.links.stream().mapToInt(q -> 1 << q).sum();
            case 6 -> one.traps ? 1 : 0;
            case 7 -> one.done;
            default -> -1;
        };
    }

    int queue(int k) {
        return k < 0 || k >= queue.size() ? -1 : queue.get(k);
    }

    int processes() {
        return all.size();
    }

    private Term find(int p, int where) {
        if (p < 0 || p >= all.size() || where < 0) {
            return null;
        }
        One one = all.get(p);
        if (where <= 8) {
            return where == 8 ? one.reason : one.registers[where];
        }
        return where - 9 < one.mail.size() ? one.mail.get(where - 9) : null;
    }

    int term(int p, int where) {
        Term t = find(p, where);
        if (t == null) {
            return -1;
        }
        int rest = t.number % 100;
        return 1000000 * t.sort + 100 * t.weight() + (rest < 0 ? rest + 100 : rest);
    }

    int digest(int p, int where) {
        Term t = find(p, where);
        int s = t == null ? 0 : 7;
        for (int step : t == null ? List.<Integer>of() : t.steps()) {
            s = s * 31 + step;
        }
        return s;
    }
}
