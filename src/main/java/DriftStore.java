import java.util.Arrays;

/**
 * Servers that seldom meet: each takes writes at any time, does what is tentative again when more
 * comes to be known, and keeps what is committed. What each public method does and answers is in
 * the document; comments here say only what it does not.
 */
public final class DriftStore {
    public static final int REFUSED = -1, NONE = -2, FULL = -3, DENIED = -4;

    private static final int SERVERS = 5;
    private static final int PRIMARY = 0;
    private static final int SESSIONS = 8;
    private static final int CELLS = 32;
    private static final int MOST_WRITES = 500;
    private static final int MOST_BYTES = 400;
    private static final int BYTES_OF_A_FEED = 20;
    private static final int LATEST_TIME = 1000000000;
    private static final int ALL_ASSURANCES = 15;

    private static final int READS_ITS_WRITES = 1;
    private static final int READS_NO_LESS = 2;
    private static final int WRITES_FOLLOW_READS = 4;
    private static final int WRITES_FOLLOW_WRITES = 8;

    // Above every int, so that no value of a cell is taken for them.
    private static final long NO_CELL = 1L << 40;
    private static final long DENIED_READ = NO_CELL + 1;

    private final Tape tape;
    private final Compiler compiler;
    private final History history;
    private final Server[] servers;
    private final Session[] sessions;
    private Program latest;

    public DriftStore() {
        tape = new Tape();
        compiler = new Compiler(tape);
        history = new History();
        Machine machine = new Machine();
        servers = new Server[SERVERS];
        for (int i = 0; i < SERVERS; i++) {
            servers[i] = new Server(history, machine);
        }
        sessions = new Session[SESSIONS];
        for (int i = 0; i < SESSIONS; i++) {
            sessions[i] = new Session();
        }
        latest = null;
    }

    public int feed(int a, int b, int c, int d, int e) {
        if (tape.length > MOST_BYTES - BYTES_OF_A_FEED) {
            return FULL;
        }
        tape.addInt(a);
        tape.addInt(b);
        tape.addInt(c);
        tape.addInt(d);
        tape.addInt(e);
        return tape.length;
    }

    public int end(int n) {
        if (n < 0 || n > tape.length) {
            return REFUSED;
        }
        tape.length = n;
        return n;
    }

    public int program() {
        int fault = compiler.compile();
        tape.length = 0;
        if (fault == NONE) {
            latest = compiler.compiled();
        }
        return fault;
    }

    public int write(int server, int session, int time) {
        if (!isServer(server) || !isSession(session) || time < 0 || time > LATEST_TIME) {
            return REFUSED;
        }
        if (latest == null) {
            return NONE;
        }
        if (history.taken >= MOST_WRITES) {
            return FULL;
        }
        Server taker = servers[server];
        Session writer = sessions[session];
        if (!writer.mayWriteAt(taker)) {
            return DENIED;
        }
        int stamp = Math.max(taker.clock + 1, time);
        int number = history.add(new Write(server, stamp, latest));
        taker.learn(number);
        writer.writeVector[server] = stamp;
        return number;
    }

    public long read(int server, int session, int cell, boolean committed) {
        if (!isServer(server) || !isSession(session) || !isCell(cell)) {
            return NO_CELL;
        }
        Server giver = servers[server];
        Session reader = sessions[session];
        if (!reader.mayReadAt(giver)) {
            return DENIED_READ;
        }
        reader.hasReadAt(giver);
        return giver.valueOf(cell, committed);
    }

    public int assure(int session, int bits, boolean fresh) {
        // A negative number, too, has bits above 15.
        if (!isSession(session) || (bits & ~ALL_ASSURANCES) != 0) {
            return REFUSED;
        }
        Session changed = sessions[session];
        int before = changed.assurances;
        changed.assurances = bits;
        if (fresh) {
            changed.clearVectors();
        }
        return before;
    }

    public int commit(int n) {
        if (n < 0) {
            return REFUSED;
        }
        Server primary = servers[PRIMARY];
        int many = Math.min(n, primary.tentatives);
        for (int i = 0; i < many; i++) {
            history.commitNext(primary.tentative[0]);
            primary.learnNextCommit();
        }
        return many;
    }

    public int meet(int from, int to, int n) {
        if (!isServer(from) || !isServer(to) || from == to || n < 0) {
            return REFUSED;
        }
        Server giver = servers[from];
        Server taker = servers[to];
        int left = n;
        if (left > 0 && giver.forgotten > taker.committed) {
            taker.learnForgotten(giver.forgotten);
            left--;
        }
        // Behind a forgotten item that was not brought, left is 0 and nothing else is brought.
        left -= taker.learnCommits(giver, left);
        left -= taker.learnTentative(giver, left);
        return n - left;
    }

    public int forget(int server, int n) {
        if (!isServer(server) || n < 0) {
            return REFUSED;
        }
        Server forgetter = servers[server];
        forgetter.forgotten += Math.min(n, forgetter.committed - forgetter.forgotten);
        return forgetter.forgotten;
    }

    public long cell(int server, int c, boolean committed) {
        if (!isServer(server) || !isCell(c)) {
            return NO_CELL;
        }
        return servers[server].valueOf(c, committed);
    }

    public int order(int server, int k) {
        if (!isServer(server)) {
            return REFUSED;
        }
        return servers[server].writeAt(k);
    }

    public int outcome(int server, int write) {
        if (!isServer(server)) {
            return REFUSED;
        }
        if (!history.has(write)) {
            return NONE;
        }
        return servers[server].outcomeOf(write);
    }

    public int look(int write, int what) {
        if (what < 0 || what > 2) {
            return REFUSED;
        }
        if (!history.has(write)) {
            return NONE;
        }
        Write seen = history.writes[write];
        switch (what) {
            case 0:
                return seen.server;
            case 1:
                return seen.stamp;
            default:
                return seen.place;
        }
    }

    public int stamp(int what, int of, int s) {
        if (!isServer(s)) {
            return REFUSED;
        }
        if (what == 0 && isServer(of)) {
            return servers[of].vector[s];
        }
        if (what == 1 && isSession(of)) {
            return sessions[of].readVector[s];
        }
        if (what == 2 && isSession(of)) {
            return sessions[of].writeVector[s];
        }
        return REFUSED;
    }

    public int count(int server, int what) {
        if (!isServer(server)) {
            return REFUSED;
        }
        Server counted = servers[server];
        switch (what) {
            case 0:
                return counted.committed + counted.tentatives;
            case 1:
                return counted.committed;
            case 2:
                return counted.forgotten;
            case 3:
                return counted.clock;
            default:
                return REFUSED;
        }
    }

    public int writes() {
        return history.taken;
    }

    private static boolean isServer(int n) {
        return n >= 0 && n < SERVERS;
    }

    private static boolean isSession(int n) {
        return n >= 0 && n < SESSIONS;
    }

    private static boolean isCell(int n) {
        return n >= 0 && n < CELLS;
    }

    /** The bytes that were fed and not yet read. */
    private static final class Tape {
        private final int[] bytes = new int[MOST_BYTES];
        private int length = 0;

        void addInt(int four) {
            for (int shift = 24; shift >= 0 && length < MOST_BYTES; shift -= 8) {
                bytes[length] = (four >>> shift) & 255;
                length++;
            }
        }
    }

    /** The kinds of tokens; those that ask for something to be done are the steps of a program, too. */
    private static final class Kind {
        private static final int END = 0;
        private static final int UNKNOWN = 1;
        private static final int IF = 2;
        private static final int THEN = 3;
        private static final int ELSE = 4;
        private static final int AND = 5;
        private static final int SERVER = 6;
        private static final int STAMP = 7;
        private static final int CELL = 8;
        private static final int NUMBER = 9;
        private static final int SAME = 10;
        private static final int OTHER = 11;
        private static final int LESS = 12;
        private static final int MORE = 13;
        private static final int PLUS = 14;
        private static final int MINUS = 15;
        private static final int TIMES = 16;
        private static final int BECOMES = 17;
        private static final int COMMA = 18;
        private static final int OPEN = 19;
        private static final int CLOSE = 20;
    }

    /**
     * The tokens of the tape. The last one is END, or UNKNOWN where bytes make no token: no rule
     * takes either, so what lies behind is never asked for.
     */
    private static final class Tokens {
        private static final int BLANK = ' ';

        private final int[] kinds = new int[MOST_BYTES + 1];
        private final int[] places = new int[MOST_BYTES + 1];
        private final int[] numbers = new int[MOST_BYTES + 1];
        private int size = 0;

        void scan(Tape tape) {
            int at = 0;
            boolean more = true;
            for (size = 0; more && size <= MOST_BYTES; size++) {
                int begin = skipBlanks(tape, at);
                at = scanToken(tape, begin);
                places[size] = begin;
                more = kinds[size] != Kind.END && kinds[size] != Kind.UNKNOWN;
            }
        }

        private static int skipBlanks(Tape tape, int from) {
            int at = from;
            while (at < tape.length && tape.bytes[at] == BLANK) {
                at++;
            }
            return at;
        }

        /** The token that begins there becomes the newest one; answers where it ends. */
        private int scanToken(Tape tape, int begin) {
            numbers[size] = 0;
            if (begin >= tape.length) {
                kinds[size] = Kind.END;
                return begin;
            }
            int first = tape.bytes[begin];
            if (first >= 'a' && first <= 'z') {
                return scanWord(tape, begin);
            }
            if (first >= '0' && first <= '9') {
                return scanNumber(tape, begin);
            }
            boolean colon = first == ':' && begin + 1 < tape.length && tape.bytes[begin + 1] == '=';
            kinds[size] = colon ? Kind.BECOMES : kindOfSign(first);
            return colon ? begin + 2 : begin + 1;
        }

        private int scanWord(Tape tape, int begin) {
            int end = begin;
            while (end < tape.length && tape.bytes[end] >= 'a' && tape.bytes[end] <= 'z') {
                end++;
            }
            kinds[size] = kindOfWord(tape, begin, end);
            return end;
        }

        private int scanNumber(Tape tape, int begin) {
            long value = 0;
            int end = begin;
            while (end < tape.length && tape.bytes[end] >= '0' && tape.bytes[end] <= '9') {
                // Once it is too large it stays so, however many digits follow.
                if (value <= Integer.MAX_VALUE) {
                    value = value * 10 + (tape.bytes[end] - '0');
                }
                end++;
            }
            boolean fits = value <= Integer.MAX_VALUE;
            kinds[size] = fits ? Kind.NUMBER : Kind.UNKNOWN;
            numbers[size] = fits ? (int) value : 0;
            return end;
        }

        private static int kindOfWord(Tape tape, int begin, int end) {
            if (spells(tape, begin, end, "c")) {
                return Kind.CELL;
            }
            if (spells(tape, begin, end, "if")) {
                return Kind.IF;
            }
            if (spells(tape, begin, end, "then")) {
                return Kind.THEN;
            }
            if (spells(tape, begin, end, "else")) {
                return Kind.ELSE;
            }
            if (spells(tape, begin, end, "and")) {
                return Kind.AND;
            }
            if (spells(tape, begin, end, "server")) {
                return Kind.SERVER;
            }
            if (spells(tape, begin, end, "stamp")) {
                return Kind.STAMP;
            }
            return Kind.UNKNOWN;
        }

        private static boolean spells(Tape tape, int begin, int end, String word) {
            if (end - begin != word.length()) {
                return false;
            }
            for (int i = 0; i < word.length(); i++) {
                if (tape.bytes[begin + i] != word.charAt(i)) {
                    return false;
                }
            }
            return true;
        }

        private static int kindOfSign(int sign) {
            switch (sign) {
                case '=':
                    return Kind.SAME;
                case '#':
                    return Kind.OTHER;
                case '<':
                    return Kind.LESS;
                case '>':
                    return Kind.MORE;
                case '+':
                    return Kind.PLUS;
                case '-':
                    return Kind.MINUS;
                case '*':
                    return Kind.TIMES;
                case ',':
                    return Kind.COMMA;
                case '(':
                    return Kind.OPEN;
                case ')':
                    return Kind.CLOSE;
                default:
                    return Kind.UNKNOWN;
            }
        }
    }

    /**
     * Reads the tape as a program and writes its steps, operands before what is done with them.
     * After a fault nothing is accepted any more, so that every loop ends and the first one stays.
     */
    private static final class Compiler {
        private static final int MOST_RULES = 6;
        private static final int MOST_PARTS = 80;
        private static final int DEEPEST = 6;
        // No token makes more than one step, and each rule ends with one of its own.
        private static final int MOST_STEPS = MOST_BYTES + MOST_RULES;

        private final Tape tape;
        private final Tokens tokens = new Tokens();
        private final int[] steps = new int[MOST_STEPS];
        private final int[] operands = new int[MOST_STEPS];
        private int size = 0;
        private int at = 0;
        private int parts = 0;
        private int fault = NONE;

        Compiler(Tape tape) {
            this.tape = tape;
        }

        /** The fault's place; NONE if there is none. */
        int compile() {
            tokens.scan(tape);
            size = 0;
            at = 0;
            parts = 0;
            fault = NONE;
            boolean more = true;
            for (int rule = 1; more && rule <= MOST_RULES; rule++) {
                if (accept(Kind.IF)) {
                    parseTest();
                }
                parseEffects();
                emit(Program.RULE_ENDS, rule);
                more = accept(Kind.ELSE);
            }
            if (more || kind() != Kind.END) {
                fail();
            }
            return fault;
        }

        Program compiled() {
            return new Program(Arrays.copyOf(steps, size), Arrays.copyOf(operands, size));
        }

        private void parseTest() {
            boolean more = true;
            for (int i = 0; more && i < MOST_BYTES; i++) {
                parseSum(0);
                int sign = kind();
                if (sign == Kind.SAME || sign == Kind.OTHER || sign == Kind.LESS || sign == Kind.MORE) {
                    accept(sign);
                } else {
                    fail();
                }
                parseSum(0);
                emit(sign, 0);
                more = accept(Kind.AND);
            }
            require(Kind.THEN);
        }

        private void parseEffects() {
            boolean more = true;
            for (int i = 0; more && i < Machine.MOST_EFFECTS; i++) {
                require(Kind.CELL);
                int cell = parseCellNumber();
                require(Kind.BECOMES);
                parseSum(0);
                emit(Kind.BECOMES, cell);
                more = accept(Kind.COMMA);
            }
            if (more) {
                fail();
            }
        }

        private void parseSum(int depth) {
            parseTerm(depth);
            boolean more = true;
            for (int i = 0; more && i < MOST_BYTES; i++) {
                int sign = kind();
                more = (sign == Kind.PLUS || sign == Kind.MINUS) && accept(sign);
                if (more) {
                    parseTerm(depth);
                    emit(sign, 0);
                }
            }
        }

        private void parseTerm(int depth) {
            parsePart(depth);
            boolean more = true;
            for (int i = 0; more && i < MOST_BYTES; i++) {
                more = accept(Kind.TIMES);
                if (more) {
                    parsePart(depth);
                    emit(Kind.TIMES, 0);
                }
            }
        }

        private void parsePart(int depth) {
            if (depth < DEEPEST && accept(Kind.OPEN)) {
                parseSum(depth + 1);
                require(Kind.CLOSE);
                return;
            }
            int kind = kind();
            if (parts >= MOST_PARTS) {
                fail();
                return;
            }
            parts++;
            if (kind == Kind.CELL) {
                accept(Kind.CELL);
                emit(Kind.CELL, parseCellNumber());
            } else if (kind == Kind.NUMBER || kind == Kind.SERVER || kind == Kind.STAMP) {
                emit(kind, tokens.numbers[at]);
                accept(kind);
            } else {
                fail();
            }
        }

        private int parseCellNumber() {
            int cell = tokens.numbers[at];
            if (!isCell(cell) || !accept(Kind.NUMBER)) {
                fail();
                return 0;
            }
            return cell;
        }

        private int kind() {
            return tokens.kinds[at];
        }

        private boolean accept(int kind) {
            if (fault != NONE || tokens.kinds[at] != kind || at + 1 >= tokens.size) {
                return false;
            }
            at++;
            return true;
        }

        private void require(int kind) {
            if (!accept(kind)) {
                fail();
            }
        }

        private void fail() {
            if (fault == NONE) {
                fault = tokens.places[at];
            }
        }

        private void emit(int step, int operand) {
            if (fault == NONE && size < MOST_STEPS) {
                steps[size] = step;
                operands[size] = operand;
                size++;
            }
        }
    }

    /** Steps and what belongs to each: a cell, a number, or the number of the rule that ends. */
    private static final class Program {
        private static final int RULE_ENDS = -1;

        private final int[] steps;
        private final int[] operands;

        Program(int[] steps, int[] operands) {
            this.steps = steps;
            this.operands = operands;
        }
    }

    /** Does writes. Its rows are made once, because tentative writes are done again and again. */
    private static final class Machine {
        private static final int MOST_EFFECTS = 8;
        // A compare's left side, two values that wait at each of seven depths, and the newest.
        private static final int MOST_VALUES = 16;

        private final int[] values = new int[MOST_VALUES];
        private final int[] targets = new int[MOST_EFFECTS];
        private final int[] sums = new int[MOST_EFFECTS];
        private int depth = 0;
        private int effects = 0;
        private boolean holds = true;

        /** Changes the cells as the write says; answers its outcome. */
        int perform(Write write, int[] cells) {
            Program program = write.program;
            beginRule();
            for (int i = 0; i < program.steps.length; i++) {
                int step = program.steps[i];
                if (step != Program.RULE_ENDS) {
                    if (holds) {
                        doStep(step, program.operands[i], write, cells);
                    }
                } else if (holds) {
                    changeCells(cells);
                    return program.operands[i];
                } else {
                    beginRule();
                }
            }
            return 0;
        }

        private void beginRule() {
            depth = 0;
            effects = 0;
            holds = true;
        }

        private void doStep(int step, int operand, Write write, int[] cells) {
            switch (step) {
                case Kind.NUMBER:
                    push(operand);
                    break;
                case Kind.CELL:
                    push(cells[operand]);
                    break;
                case Kind.SERVER:
                    push(write.server);
                    break;
                case Kind.STAMP:
                    push(write.stamp);
                    break;
                case Kind.BECOMES:
                    keepEffect(operand);
                    break;
                default:
                    combine(step);
                    break;
            }
        }

        private void combine(int step) {
            int right = pop();
            int left = pop();
            switch (step) {
                case Kind.PLUS:
                    push(left + right);
                    break;
                case Kind.MINUS:
                    push(left - right);
                    break;
                case Kind.TIMES:
                    push(left * right);
                    break;
                case Kind.SAME:
                    holds = left == right;
                    break;
                case Kind.OTHER:
                    holds = left != right;
                    break;
                case Kind.LESS:
                    holds = left < right;
                    break;
                default:
                    holds = left > right;
                    break;
            }
        }

        /** The cells stay as they are until all sums are found. */
        private void keepEffect(int target) {
            int sum = pop();
            if (effects < MOST_EFFECTS) {
                targets[effects] = target;
                sums[effects] = sum;
                effects++;
            }
        }

        private void changeCells(int[] cells) {
            for (int i = 0; i < effects; i++) {
                cells[targets[i]] = sums[i];
            }
        }

        private void push(int value) {
            if (depth < MOST_VALUES) {
                values[depth] = value;
                depth++;
            }
        }

        private int pop() {
            if (depth == 0) {
                return 0;
            }
            depth--;
            return values[depth];
        }
    }

    private static final class Write {
        private final int server;
        private final int stamp;
        private final Program program;
        // The how manieth it was committed, from 1; 0 until it is.
        private int place = 0;

        Write(int server, int stamp, Program program) {
            this.server = server;
            this.stamp = stamp;
            this.program = program;
        }

        boolean comesBefore(Write other) {
            return stamp < other.stamp || stamp == other.stamp && server < other.server;
        }
    }

    /**
     * All writes by number, and the order in which the primary committed them. What a server knows
     * as committed is always the first part of that order, so a server keeps only how many.
     */
    private static final class History {
        private final Write[] writes = new Write[MOST_WRITES];
        private final int[] commits = new int[MOST_WRITES];
        private int taken = 0;
        private int committed = 0;

        boolean has(int number) {
            return number >= 0 && number < taken;
        }

        /** The caller has looked whether there is room. */
        int add(Write write) {
            writes[taken] = write;
            taken++;
            return taken - 1;
        }

        void commitNext(int number) {
            commits[committed] = number;
            committed++;
            writes[number].place = committed;
        }
    }

    private static final class Server {
        private final History history;
        private final Machine machine;
        private final int[] vector = new int[SERVERS];
        private final boolean[] known = new boolean[MOST_WRITES];
        private final int[] tentative = new int[MOST_WRITES];
        private final int[] committedCells = new int[CELLS];
        private final int[] cells = new int[CELLS];
        private final int[] outcomes = new int[MOST_WRITES];
        private int clock = 0;
        private int committed = 0;
        private int forgotten = 0;
        private int tentatives = 0;
        // How many of the tentative writes the cells show; the others are done when one looks.
        private int done = 0;

        Server(History history, Machine machine) {
            this.history = history;
            this.machine = machine;
        }

        /** A write that it does not know becomes known as a tentative one. */
        void learn(int number) {
            Write write = history.writes[number];
            known[number] = true;
            clock = Math.max(clock, write.stamp);
            vector[write.server] = Math.max(vector[write.server], write.stamp);
            int at = tentatives;
            while (at > 0 && write.comesBefore(history.writes[tentative[at - 1]])) {
                tentative[at] = tentative[at - 1];
                at--;
            }
            tentative[at] = number;
            tentatives++;
            if (at < done) {
                done = 0;
            }
        }

        /** It gets to know the first committed write that it does not know as one. */
        void learnNextCommit() {
            int number = history.commits[committed];
            if (!known[number]) {
                learn(number);
            }
            removeTentative(number);
            committed++;
            outcomes[number] = machine.perform(history.writes[number], committedCells);
            done = 0;
        }

        void learnForgotten(int many) {
            for (int i = committed; i < many; i++) {
                learnNextCommit();
            }
            forgotten = many;
        }

        /** Answers how many items that was, at most as many as are left. */
        int learnCommits(Server giver, int left) {
            int many = Math.max(0, Math.min(left, giver.committed - committed));
            for (int i = 0; i < many; i++) {
                learnNextCommit();
            }
            return many;
        }

        /** Answers how many items that was, at most as many as are left. */
        int learnTentative(Server giver, int left) {
            int many = 0;
            for (int i = 0; i < giver.tentatives && many < left; i++) {
                if (!known[giver.tentative[i]]) {
                    learn(giver.tentative[i]);
                    many++;
                }
            }
            return many;
        }

        int writeAt(int k) {
            if (k < 0 || k >= committed + tentatives) {
                return NONE;
            }
            return k < committed ? history.commits[k] : tentative[k - committed];
        }

        int outcomeOf(int number) {
            if (!known[number]) {
                return NONE;
            }
            catchUp();
            return outcomes[number];
        }

        int valueOf(int cell, boolean ofCommitted) {
            if (ofCommitted) {
                return committedCells[cell];
            }
            catchUp();
            return cells[cell];
        }

        private void catchUp() {
            if (done == 0) {
                System.arraycopy(committedCells, 0, cells, 0, CELLS);
            }
            for (int i = done; i < tentatives; i++) {
                int number = tentative[i];
                outcomes[number] = machine.perform(history.writes[number], cells);
            }
            done = tentatives;
        }

        private void removeTentative(int number) {
            int at = 0;
            while (at < tentatives && tentative[at] != number) {
                at++;
            }
            if (at < tentatives) {
                tentatives--;
                System.arraycopy(tentative, at + 1, tentative, at, tentatives - at);
            }
        }
    }

    private static final class Session {
        private final int[] readVector = new int[SERVERS];
        private final int[] writeVector = new int[SERVERS];
        private int assurances = 0;

        boolean mayWriteAt(Server server) {
            return (!assures(WRITES_FOLLOW_READS) || isAtLeast(server.vector, readVector))
                && (!assures(WRITES_FOLLOW_WRITES) || isAtLeast(server.vector, writeVector));
        }

        boolean mayReadAt(Server server) {
            return (!assures(READS_ITS_WRITES) || isAtLeast(server.vector, writeVector))
                && (!assures(READS_NO_LESS) || isAtLeast(server.vector, readVector));
        }

        void hasReadAt(Server server) {
            for (int i = 0; i < SERVERS; i++) {
                readVector[i] = Math.max(readVector[i], server.vector[i]);
            }
        }

        void clearVectors() {
            Arrays.fill(readVector, 0);
            Arrays.fill(writeVector, 0);
        }

        private boolean assures(int bit) {
            return (assurances & bit) != 0;
        }

        private static boolean isAtLeast(int[] vector, int[] other) {
            for (int i = 0; i < SERVERS; i++) {
                if (vector[i] < other[i]) {
                    return false;
                }
            }
            return true;
        }
    }
}
