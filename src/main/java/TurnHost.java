/** A host of processes that share nothing but messages and the news of one another's ends. */
public final class TurnHost {
    private static final int INSTRUCTIONS = 48;
    private static final int PROCESSES = 12;
    private static final int REGISTERS = 8;
    private static final int RETURNS = 6;
    private static final int MESSAGES = 12;
    private static final int WEIGHT = 15;
    private static final int QUOTA_MOST = 50;
    private static final int QUOTA_ELSE = 8;
    private static final int RUN_MOST = 15;
    private static final int NONE = -1;

    private static final int SORT_INT = 0;
    private static final int SORT_ATOM = 1;
    private static final int SORT_PID = 2;
    private static final int SORT_NIL = 3;
    private static final int SORT_PAIR = 4;
    private static final int SORT_TUPLE = 5;
    private static final int SORTS = 6;

    private static final int ATOM_KILLED = 12;
    private static final int ATOM_FAULT = 13;
    private static final int ATOM_NORMAL = 14;
    private static final int ATOM_EXIT = 15;
    private static final int ATOMS = 16;

    private static final int STATE_READY = 1;
    private static final int STATE_WAITS = 2;
    private static final int STATE_ENDED = 3;

    private static final int REASON_AT = 8;
    private static final int MESSAGES_AT = 9;

    private static final int OP_INT = 0;
    private static final int OP_ATOM = 1;
    private static final int OP_MOVE = 2;
    private static final int OP_SELF = 3;
    private static final int OP_NIL = 4;
    private static final int OP_PAIR = 5;
    private static final int OP_TUPLE = 6;
    private static final int OP_FIRST = 7;
    private static final int OP_SECOND = 8;
    private static final int OP_ADD = 9;
    private static final int OP_SUB = 10;
    private static final int OP_LESS = 11;
    private static final int OP_SAME = 12;
    private static final int OP_IS = 13;
    private static final int OP_JUMP = 14;
    private static final int OP_CALL = 15;
    private static final int OP_RETURN = 16;
    private static final int OP_SEND = 17;
    private static final int OP_PEEK = 18;
    private static final int OP_TAKE = 19;
    private static final int OP_NEXT = 20;
    private static final int OP_WAIT = 21;
    private static final int OP_SPAWN = 22;
    private static final int OP_LINK = 23;
    private static final int OP_TRAP = 24;
    private static final int OP_END = 25;
    private static final int OP_STOP = 26;
    private static final int OPERATIONS = 27;

    /** The limit of an operand that may be any int, or that the operation does not have. */
    private static final int ANY = 0;

    /** Three to an operation: each operand is 0 .. limit - 1. */
    private static final int[] LIMITS = {
        REGISTERS, ANY, ANY, // INT
        REGISTERS, ATOMS, ANY, // ATOM
        REGISTERS, REGISTERS, ANY, // MOVE
        REGISTERS, ANY, ANY, // SELF
        REGISTERS, ANY, ANY, // NIL
        REGISTERS, REGISTERS, REGISTERS, // PAIR
        REGISTERS, REGISTERS, REGISTERS, // TUPLE
        REGISTERS, REGISTERS, ANY, // FIRST
        REGISTERS, REGISTERS, ANY, // SECOND
        REGISTERS, REGISTERS, REGISTERS, // ADD
        REGISTERS, REGISTERS, REGISTERS, // SUB
        REGISTERS, REGISTERS, INSTRUCTIONS, // LESS
        REGISTERS, REGISTERS, INSTRUCTIONS, // SAME
        REGISTERS, SORTS, INSTRUCTIONS, // IS
        INSTRUCTIONS, ANY, ANY, // JUMP
        INSTRUCTIONS, ANY, ANY, // CALL
        ANY, ANY, ANY, // RETURN
        REGISTERS, REGISTERS, ANY, // SEND
        REGISTERS, INSTRUCTIONS, ANY, // PEEK
        ANY, ANY, ANY, // TAKE
        INSTRUCTIONS, ANY, ANY, // NEXT
        INSTRUCTIONS, ANY, ANY, // WAIT
        REGISTERS, INSTRUCTIONS, REGISTERS, // SPAWN
        REGISTERS, ANY, ANY, // LINK
        ANY, ANY, ANY, // TRAP
        REGISTERS, ANY, ANY, // END
        REGISTERS, ANY, ANY, // STOP
    };

    private final int quota;
    private final Machine machine;
    private final Program program;
    private final Society society;
    /** Reductions done in the turn that is on; 0 between turns. */
    private int spent;

    public TurnHost(int quota) {
        this.quota = quota >= 1 && quota <= QUOTA_MOST ? quota : QUOTA_ELSE;
        this.machine = new Machine();
        this.program = machine.program;
        this.society = machine.society;
        this.spent = 0;
    }

    public int add(int operation, int a, int b, int c) {
        return program.append(operation, a, b, c);
    }

    public int begin(int l, int n) {
        if (l < 0 || l >= INSTRUCTIONS) {
            return NONE;
        }
        HostProcess begun = society.start(l, new Term(SORT_INT, n));
        return begun == null ? NONE : begun.number;
    }

    public boolean tell(int p, int n) {
        HostProcess told = society.numbered(p);
        if (told == null || told.state == STATE_ENDED) {
            return false;
        }
        society.deliver(told, new Term(SORT_INT, n));
        return true;
    }

    public int run(int n) {
        if (n < 1 || n > RUN_MOST) {
            return NONE;
        }
        int done = 0;
        while (done < n) {
            HostProcess taken = society.numbered(society.line.at(0));
            if (taken == null) {
                break;
            }
            machine.reduce(taken);
            done++;
            countInTurn(taken);
        }
        return done;
    }

    public int clear(boolean code) {
        int gone = society.count;
        society.dissolve();
        spent = 0;
        if (code) {
            program.wipe();
        }
        return gone;
    }

    public int process(int p, int what) {
        HostProcess asked = society.numbered(p);
        return asked == null ? NONE : asked.answer(what);
    }

    public int queue(int k) {
        return society.line.at(k);
    }

    public int processes() {
        return society.count;
    }

    public int term(int p, int where) {
        Term found = termOf(p, where);
        return found == null ? NONE : found.summary();
    }

    public int digest(int p, int where) {
        Term found = termOf(p, where);
        return found == null ? 0 : Term.mixed(7, found);
    }

    private Term termOf(int p, int where) {
        HostProcess asked = society.numbered(p);
        return asked == null ? null : asked.termAt(where);
    }

    /** One that waits or has ended has left the queue already, so that its turn is over without more ado. */
    private void countInTurn(HostProcess taken) {
        spent++;
        if (taken.state != STATE_READY) {
            spent = 0;
        } else if (spent >= quota) {
            society.line.leave(taken.number);
            society.line.append(taken.number);
            spent = 0;
        }
    }

    /** A term, which never changes once made: so processes may hold the same one and still share nothing. */
    private static final class Term {
        final int sort;
        final int number;
        final Term first;
        final Term second;
        final int weight;

        Term(int sort, int number) {
            this.sort = sort;
            this.number = number;
            this.first = null;
            this.second = null;
            this.weight = 1;
        }

        Term(int sort, Term first, Term second) {
            this.sort = sort;
            this.number = 0;
            this.first = first;
            this.second = second;
            this.weight = 1 + first.weight + second.weight;
        }

        /** The pair or tuple of two terms; null if it would weigh too much. */
        static Term joined(int sort, Term first, Term second) {
            return 1 + first.weight + second.weight > WEIGHT ? null : new Term(sort, first, second);
        }

        boolean hasParts() {
            return first != null && second != null;
        }

        boolean hasNumber() {
            return sort == SORT_INT || sort == SORT_ATOM || sort == SORT_PID;
        }

        int summary() {
            int shown = hasNumber() ? Math.floorMod(number, 100) : 0;
            return 1000000 * sort + 100 * weight + shown;
        }

        /** A term of weight 15 at the most is at the most seven levels deep, and so is the recursion. */
        private static boolean alike(Term x, Term y) {
            if (x.sort != y.sort || x.number != y.number) {
                return false;
            }
            if (!x.hasParts() || !y.hasParts()) {
                return true;
            }
            return alike(x.first, y.first) && alike(x.second, y.second);
        }

        /** As deep as the term, as in alike. */
        private static int mixed(int s, Term t) {
            int head = s * 31 + t.sort + 1;
            if (t.hasNumber()) {
                return head * 31 + t.number;
            }
            if (!t.hasParts()) {
                return head;
            }
            return mixed(mixed(head, t.first), t.second);
        }
    }

    /** The code: four cells to an instruction. */
    private static final class Program {
        final int[] cells;
        int count;

        Program() {
            this.cells = new int[4 * INSTRUCTIONS];
            this.count = 0;
        }

        int append(int operation, int a, int b, int c) {
            if (count >= INSTRUCTIONS || operation < 0 || operation >= OPERATIONS) {
                return NONE;
            }
            int limit = 3 * operation;
            if (!fits(a, LIMITS[limit]) || !fits(b, LIMITS[limit + 1]) || !fits(c, LIMITS[limit + 2])) {
                return NONE;
            }
            int cell = 4 * count;
            cells[cell] = operation;
            cells[cell + 1] = a;
            cells[cell + 2] = b;
            cells[cell + 3] = c;
            count++;
            return count - 1;
        }

        private static boolean fits(int operand, int limit) {
            return limit == ANY || operand >= 0 && operand < limit;
        }

        boolean reaches(int place) {
            return place >= 0 && place < count;
        }

        void wipe() {
            count = 0;
        }
    }

    /** Messages from the oldest on, and the mark among them, which may stand far behind the last. */
    private static final class Mailbox {
        final Term[] messages;
        int count;
        int mark;

        Mailbox() {
            this.messages = new Term[MESSAGES];
            this.count = 0;
            this.mark = 0;
        }

        void empty() {
            count = 0;
            mark = 0;
        }

        Term at(int k) {
            return k >= 0 && k < count ? messages[k] : null;
        }

        Term marked() {
            return at(mark);
        }

        /** Whether there was room for it. */
        boolean put(Term message) {
            if (count >= MESSAGES) {
                return false;
            }
            messages[count] = message;
            count++;
            return true;
        }

        /** Whether there was a message at the mark to take. */
        boolean take() {
            if (marked() == null) {
                return false;
            }
            for (int k = mark + 1; k < count; k++) {
                messages[k - 1] = messages[k];
            }
            count--;
            mark = 0;
            return true;
        }
    }

    /** One process; made once with the host and used again for each process that bears its number. */
    private static final class HostProcess {
        final int number;
        final Term pid;
        final Term[] registers;
        final int[] returns;
        final Mailbox mailbox;
        int returnCount;
        int place;
        int links;
        boolean traps;
        int state;
        Term reason;
        int reductions;

        HostProcess(int number) {
            this.number = number;
            this.pid = new Term(SORT_PID, number);
            this.registers = new Term[REGISTERS];
            this.returns = new int[RETURNS];
            this.mailbox = new Mailbox();
        }

        void renew(int at, Term argument, Term nil) {
            for (int r = 0; r < REGISTERS; r++) {
                registers[r] = nil;
            }
            registers[0] = argument;
            mailbox.empty();
            returnCount = 0;
            place = at;
            links = 0;
            traps = false;
            state = STATE_READY;
            reason = null;
            reductions = 0;
        }

        /** Whether there was a term to set: null stands for one that there can't be. */
        boolean set(int register, Term value) {
            if (value == null) {
                return false;
            }
            registers[register] = value;
            return true;
        }

        boolean goTo(int l) {
            place = l;
            return true;
        }

        boolean pushReturn() {
            if (returnCount >= RETURNS) {
                return false;
            }
            returns[returnCount] = place;
            returnCount++;
            return true;
        }

        int answer(int what) {
            switch (what) {
                case 0: return state;
                case 1: return place;
                case 2: return mailbox.mark;
                case 3: return mailbox.count;
                case 4: return returnCount;
                case 5: return links;
                case 6: return traps ? 1 : 0;
                case 7: return reductions;
                default: return NONE;
            }
        }

        Term termAt(int where) {
            if (where < 0) {
                return null;
            }
            if (where < REGISTERS) {
                return registers[where];
            }
            return where == REASON_AT ? reason : mailbox.at(where - MESSAGES_AT);
        }
    }

    /** The numbers of the ready processes; the one whose turn it is stands at 0. */
    private static final class Line {
        final int[] numbers;
        int count;

        Line() {
            this.numbers = new int[PROCESSES];
            this.count = 0;
        }

        void empty() {
            count = 0;
        }

        int at(int k) {
            return k >= 0 && k < count ? numbers[k] : NONE;
        }

        void append(int number) {
            if (count < PROCESSES) {
                numbers[count] = number;
                count++;
            }
        }

        void leave(int number) {
            int kept = 0;
            for (int k = 0; k < count; k++) {
                if (numbers[k] != number) {
                    numbers[kept] = numbers[k];
                    kept++;
                }
            }
            count = kept;
        }
    }

    /** The processes, the queue of those that are ready, and what they do to one another. */
    private static final class Society {
        final HostProcess[] table;
        final Line line;
        final Term nil;
        final Term[] atoms;
        int count;

        Society() {
            this.table = new HostProcess[PROCESSES];
            for (int p = 0; p < PROCESSES; p++) {
                table[p] = new HostProcess(p);
            }
            this.line = new Line();
            this.nil = new Term(SORT_NIL, 0);
            this.atoms = new Term[ATOMS];
            for (int a = 0; a < ATOMS; a++) {
                atoms[a] = new Term(SORT_ATOM, a);
            }
            this.count = 0;
        }

        void dissolve() {
            count = 0;
            line.empty();
        }

        /** The process of that number; null if there is none. */
        HostProcess numbered(int number) {
            return number >= 0 && number < count ? table[number] : null;
        }

        /** The process whose pid the term is; null if it is no pid of a process. */
        HostProcess bearing(Term pid) {
            return pid.sort == SORT_PID ? numbered(pid.number) : null;
        }

        /** A new process, ready; null if there are as many as there may be. */
        HostProcess start(int place, Term argument) {
            if (count >= PROCESSES) {
                return null;
            }
            HostProcess begun = table[count];
            count++;
            begun.renew(place, argument, nil);
            line.append(begun.number);
            return begun;
        }

        /** A message that is lost wakes nobody, as nothing has come. */
        void deliver(HostProcess to, Term message) {
            if (to.state == STATE_ENDED || !to.mailbox.put(message)) {
                return;
            }
            if (to.state == STATE_WAITS) {
                to.state = STATE_READY;
                line.append(to.number);
            }
        }

        void suspend(HostProcess p) {
            p.state = STATE_WAITS;
            line.leave(p.number);
        }

        void tie(HostProcess p, HostProcess q) {
            p.links |= 1 << q.number;
            q.links |= 1 << p.number;
        }

        private void untie(HostProcess p, HostProcess q) {
            p.links &= ~(1 << q.number);
            q.links &= ~(1 << p.number);
        }

        /** It and signal call one another at most once for each process, since an ended one is let be. */
        private void end(HostProcess p, Term reason) {
            if (p.state == STATE_ENDED) {
                return;
            }
            p.state = STATE_ENDED;
            p.reason = reason;
            line.leave(p.number);
            for (int q = 0; q < count; q++) {
                if ((p.links & (1 << q)) != 0) {
                    untie(p, table[q]);
                    signal(p, table[q], reason);
                }
            }
        }

        private void signal(HostProcess from, HostProcess to, Term reason) {
            if (to.state == STATE_ENDED) {
                return;
            }
            if (to.traps) {
                deliver(to, exitNotice(from, reason));
            } else if (!Term.alike(reason, atoms[ATOM_NORMAL])) {
                end(to, reason);
            }
        }

        private Term exitNotice(HostProcess from, Term reason) {
            // Two tuples, EXIT and the pid weigh 4 together.
            Term told = reason.weight + 4 > WEIGHT ? atoms[ATOM_FAULT] : reason;
            return new Term(SORT_TUPLE, atoms[ATOM_EXIT], new Term(SORT_TUPLE, from.pid, told));
        }
    }

    /** What the operations do; each answers whether it could be done, and if not, the process ends with FAULT. */
    private static final class Machine {
        final Program program;
        final Society society;

        Machine() {
            this.program = new Program();
            this.society = new Society();
        }

        void reduce(HostProcess p) {
            p.reductions++;
            if (!program.reaches(p.place)) {
                society.end(p, society.atoms[ATOM_FAULT]);
                return;
            }
            int cell = 4 * p.place;
            int[] cells = program.cells;
            p.place++;
            if (!perform(p, cells[cell], cells[cell + 1], cells[cell + 2], cells[cell + 3])) {
                society.end(p, society.atoms[ATOM_FAULT]);
            }
        }

        /** The numbers of registers, atoms and instructions were looked at when the instruction was added. */
        private boolean perform(HostProcess p, int operation, int a, int b, int c) {
            Term[] r = p.registers;
            switch (operation) {
                case OP_INT: return p.set(a, new Term(SORT_INT, b));
                case OP_ATOM: return p.set(a, society.atoms[b]);
                case OP_MOVE: return p.set(a, r[b]);
                case OP_SELF: return p.set(a, p.pid);
                case OP_NIL: return p.set(a, society.nil);
                case OP_PAIR: return p.set(a, Term.joined(SORT_PAIR, r[b], r[c]));
                case OP_TUPLE: return p.set(a, Term.joined(SORT_TUPLE, r[b], r[c]));
                case OP_FIRST: return p.set(a, r[b].first);
                case OP_SECOND: return p.set(a, r[b].second);
                case OP_ADD: return areInts(r[b], r[c]) && p.set(a, new Term(SORT_INT, r[b].number + r[c].number));
                case OP_SUB: return areInts(r[b], r[c]) && p.set(a, new Term(SORT_INT, r[b].number - r[c].number));
                case OP_LESS: return areInts(r[a], r[b]) && goUnless(p, r[a].number < r[b].number, c);
                case OP_SAME: return goUnless(p, Term.alike(r[a], r[b]), c);
                case OP_IS: return goUnless(p, r[a].sort == b, c);
                case OP_JUMP: return p.goTo(a);
                case OP_CALL: return p.pushReturn() && p.goTo(a);
                case OP_RETURN: return goBack(p);
                case OP_SEND: return send(society.bearing(r[a]), r[b]);
                case OP_PEEK: return goUnless(p, p.set(a, p.mailbox.marked()), b);
                case OP_TAKE: return p.mailbox.take();
                case OP_NEXT: return passOver(p, a);
                case OP_WAIT: return waitOrGoOn(p, a);
                case OP_SPAWN: return spawn(p, a, b, r[c]);
                case OP_LINK: return link(p, society.bearing(r[a]));
                case OP_TRAP: return trap(p, a == 1);
                case OP_END: return finish(p, r[a]);
                case OP_STOP: return stop(p, society.bearing(r[a]));
                default: return false;
            }
        }

        private static boolean areInts(Term x, Term y) {
            return x.sort == SORT_INT && y.sort == SORT_INT;
        }

        private static boolean goUnless(HostProcess p, boolean holds, int l) {
            return holds || p.goTo(l);
        }

        private boolean goBack(HostProcess p) {
            if (p.returnCount <= 0) {
                society.end(p, society.atoms[ATOM_NORMAL]);
                return true;
            }
            p.returnCount--;
            return p.goTo(p.returns[p.returnCount]);
        }

        private boolean send(HostProcess to, Term message) {
            if (to == null) {
                return false;
            }
            society.deliver(to, message);
            return true;
        }

        private static boolean passOver(HostProcess p, int l) {
            p.mailbox.mark++;
            return p.goTo(l);
        }

        private boolean waitOrGoOn(HostProcess p, int l) {
            // Messages stand without gaps: with none at the mark, there is none behind it either.
            if (p.mailbox.marked() == null) {
                society.suspend(p);
            }
            return p.goTo(l);
        }

        private boolean spawn(HostProcess p, int a, int l, Term argument) {
            HostProcess begun = society.start(l, argument);
            return begun != null && p.set(a, begun.pid);
        }

        private boolean link(HostProcess p, HostProcess other) {
            if (other == null) {
                return false;
            }
            if (other.state == STATE_ENDED) {
                society.signal(other, p, society.atoms[ATOM_FAULT]);
            } else if (other != p) {
                society.tie(p, other);
            }
            return true;
        }

        private static boolean trap(HostProcess p, boolean on) {
            p.traps = on;
            return true;
        }

        private boolean finish(HostProcess p, Term reason) {
            society.end(p, reason);
            return true;
        }

        private boolean stop(HostProcess p, HostProcess other) {
            if (other == null) {
                return false;
            }
            society.signal(p, other, society.atoms[ATOM_KILLED]);
            return true;
        }
    }
}
