import java.util.Arrays;

/** String analysis by abstract interpretation; README.md says how to use it. */
public final class TextValues {
    public static final int NONE = -1, BAD = -2, NO = -3, FULL = -4, FEWER = -5, LOST = -6, ENDLESS = 1000;

    private static final int LETTERS = 3;
    private static final int VARIABLES = 4;
    private static final int PATTERNS = 4;
    private static final int SIZE = 10;
    private static final int BUFFER = 120;
    private static final int DEPTH = 5;
    private static final int PAST = 6;
    private static final int FAULT = -10;

    private final byte[] buffer = new byte[BUFFER];
    private int filled;
    private Setup setup = new Setup();
    private final Setup[] past = new Setup[PAST];
    private int remembered;
    private int bads;
    private int nos;
    private int fulls;
    private final Texts texts = new Texts();
    private final Maker maker = new Maker();
    private final PatternReader patternReader = new PatternReader();
    private final ProgramReader programReader = new ProgramReader();
    private final Analysis analysis = new Analysis(maker, texts);
    private final Runner runner = new Runner(texts);

    public TextValues() {
    }

    public int type(int c) {
        if (c < 0 || c > 127) {
            return refuse(BAD);
        }
        if (filled < 0 || filled >= buffer.length) {
            return refuse(FULL);
        }
        buffer[filled] = (byte) c;
        filled++;
        return filled;
    }

    public int clear() {
        int had = filled;
        filled = 0;
        return had;
    }

    public int pattern(int i) {
        if (i < 0 || i >= PATTERNS) {
            return refuse(BAD);
        }
        int fault = patternReader.read(buffer, filled);
        if (fault >= 0) {
            return FAULT - fault;
        }
        Lang made = new Lang();
        patternReader.make(maker, made);
        change(setup.withPattern(i, made));
        return made.size;
    }

    public int program() {
        Program read = programReader.read(buffer, filled);
        if (read == null) {
            return FAULT - programReader.fault;
        }
        change(setup.withProgram(read));
        return read.statements;
    }

    public int sets(int what, int v) {
        if (what < 0 || what > 1 || v < 0 || v > (what == 0 ? 5 : 1)) {
            return refuse(BAD);
        }
        int before = what == 0 ? setup.delay : setup.similar;
        change(what == 0 ? setup.withDelay(v) : setup.withSimilar(v));
        return before;
    }

    public int value(int v, int what) {
        if (!isLanguage(v) || what < 0 || what > 4) {
            return refuse(BAD);
        }
        if (v < VARIABLES) {
            analysis.refresh(setup);
        }
        Lang language = language(v);
        return language == null ? refuse(NO) : described(language, what);
    }

    public long many(int v, int n) {
        if (!isLanguage(v) || n < 0 || n > 20) {
            return refuse(BAD);
        }
        if (v < VARIABLES) {
            analysis.refresh(setup);
        }
        Lang language = language(v);
        return language == null ? refuse(NO) : texts.ofLength(language, n);
    }

    public int text(int v, int k, int i) {
        if (!isLanguage(v) || k < 0 || k > 20 || i < 0) {
            return refuse(BAD);
        }
        if (v < VARIABLES) {
            analysis.refresh(setup);
        }
        Lang language = language(v);
        if (language == null) {
            return refuse(NO);
        }
        int length = texts.find(language, k);
        if (length < 0) {
            return FEWER;
        }
        return i < length ? 'a' + texts.letter(i) : NONE;
    }

    public int holds(int v) {
        if (!isLanguage(v)) {
            return refuse(BAD);
        }
        if (v < VARIABLES) {
            analysis.refresh(setup);
        }
        Lang language = language(v);
        if (language == null) {
            return refuse(NO);
        }
        int state = 0;
        for (int at = 0; at < filled && at < buffer.length; at++) {
            int c = buffer[at];
            if (c >= 'a' && c <= 'c') {
                state = language.to(state, c - 'a');
            } else if (c != ' ') {
                return FAULT - at;
            }
        }
        return language.isEnd(state) ? 1 : 0;
    }

    public int within(int v, int w) {
        if (!isLanguage(v) || !isLanguage(w)) {
            return refuse(BAD);
        }
        if (v < VARIABLES || w < VARIABLES) {
            analysis.refresh(setup);
        }
        Lang inner = language(v);
        Lang outer = language(w);
        if (inner == null || outer == null) {
            return refuse(NO);
        }
        return texts.smallest(inner, outer, false) < 0 ? 1 : 0;
    }

    public int alarms() {
        return setup.program.alarmCount();
    }

    public int alarm(int j, int what) {
        if (j < 0 || j >= setup.program.alarmCount() || what < 0 || what > 2) {
            return refuse(BAD);
        }
        analysis.refresh(setup);
        return alarmed(j, what);
    }

    public int raised(int j, int i) {
        if (j < 0 || j >= setup.program.alarmCount() || i < 0) {
            return refuse(BAD);
        }
        analysis.refresh(setup);
        return i < analysis.raisedLength(j) ? 'a' + analysis.raisedLetter(j, i) : NONE;
    }

    public int count(int what) {
        if (what < 0 || what > 3) {
            return refuse(BAD);
        }
        analysis.refresh(setup);
        return counted(what);
    }

    public int runs(int seed) {
        if (seed < 0 || seed > 999999) {
            return refuse(BAD);
        }
        return runner.start(setup, seed);
    }

    public int ran(int v, int i) {
        if (v < 0 || v >= VARIABLES || i < 0) {
            return refuse(BAD);
        }
        return i < runner.keptLength(v) ? 'a' + runner.keptLetter(v, i) : NONE;
    }

    public int caught() {
        analysis.refresh(setup);
        return caughtNow();
    }

    public int rang() {
        return runner.keptRings();
    }

    public int back() {
        if (remembered <= 0 || remembered > past.length || past[remembered - 1] == null) {
            return refuse(NO);
        }
        remembered--;
        setup = past[remembered];
        past[remembered] = null;
        return remembered;
    }

    public int told(int what) {
        if (what < 0 || what > 6) {
            return refuse(BAD);
        }
        return tally(what);
    }

    public long digest() {
        analysis.refresh(setup);
        long h = 1815;
        for (int what = 0; what <= 6; what++) {
            h = 31 * h + tally(what);
        }
        for (int what = 0; what <= 3; what++) {
            h = 31 * h + counted(what);
        }
        for (int v = analysis.isPossible() ? 0 : VARIABLES; v < VARIABLES + PATTERNS; v++) {
            Lang language = v < VARIABLES ? analysis.behind(v) : setup.patternAt(v - VARIABLES);
            for (int what = 0; what <= 4; what++) {
                h = 31 * h + described(language, what);
            }
        }
        for (int j = 0; j < setup.program.alarmCount(); j++) {
            for (int what = 0; what <= 2; what++) {
                h = 31 * h + alarmed(j, what);
            }
        }
        h = 31 * h + caughtNow();
        return 31 * h + runner.keptRings();
    }

    private int refuse(int answer) {
        if (answer == BAD) {
            bads++;
        } else if (answer == NO) {
            nos++;
        } else {
            fulls++;
        }
        return answer;
    }

    private void change(Setup changed) {
        if (remembered >= past.length) {
            for (int i = 1; i < past.length; i++) {
                past[i - 1] = past[i];
            }
            remembered = past.length - 1;
        }
        past[remembered] = setup;
        remembered++;
        setup = changed;
    }

    private static boolean isLanguage(int v) {
        return v >= 0 && v < VARIABLES + PATTERNS;
    }

    /** The language that v stands for, or null if the state behind the program is impossible. */
    private Lang language(int v) {
        if (v >= VARIABLES) {
            return setup.patternAt(v - VARIABLES);
        }
        return analysis.isPossible() ? analysis.behind(v) : null;
    }

    private int described(Lang language, int what) {
        switch (what) {
            case 0:
                return language.size;
            case 1:
                return texts.shortest(language);
            case 2:
                return texts.longest(language);
            case 3:
                return language.isAll() ? 1 : 0;
            default:
                return language.isNothing() ? 1 : 0;
        }
    }

    private int alarmed(int j, int what) {
        switch (what) {
            case 0:
                return analysis.raisedLength(j) >= 0 ? 1 : 0;
            case 1:
                return setup.program.alarmPlace(j);
            default:
                return analysis.raisedLength(j);
        }
    }

    private int counted(int what) {
        switch (what) {
            case 0:
                return setup.program.statements;
            case 1:
                return analysis.allRounds();
            case 2:
                return analysis.mostRounds();
            default:
                return analysis.isPossible() ? 0 : 1;
        }
    }

    private int caughtNow() {
        int mask = 0;
        for (int v = 0; v < VARIABLES && analysis.isPossible(); v++) {
            if (runner.keptIsIn(v, analysis.behind(v))) {
                mask |= 1 << v;
            }
        }
        return mask;
    }

    private int tally(int what) {
        switch (what) {
            case 0:
                return bads;
            case 1:
                return nos;
            case 2:
                return fulls;
            case 3:
                return setup.delay;
            case 4:
                return setup.similar;
            case 5:
                return filled;
            default:
                return remembered;
        }
    }

    /**
     * A language as its minimal complete automaton. State 0 is the first; the states are numbered in the order
     * of the smallest texts that lead to them, so that equal languages have equal fields.
     */
    static final class Lang {
        private static final int HALF = SIZE / 2;

        /** Four bits a step: the steps of the states 0 to 4, three letters each, and those of 5 to 9. */
        private long low;
        private long high;
        private int ends;
        private int size;

        Lang() {
            makeAll();
        }

        void makeAll() {
            low = 0;
            high = 0;
            ends = 1;
            size = 1;
        }

        void makeNothing() {
            makeAll();
            ends = 0;
        }

        void makeEmptyText() {
            makeAll();
            low = 0x111111L;
            size = 2;
        }

        void set(Lang other) {
            low = other.low;
            high = other.high;
            ends = other.ends;
            size = other.size;
        }

        int to(int state, int letter) {
            if (state < HALF) {
                return (int) (low >>> (12 * state + 4 * letter)) & 15;
            }
            return (int) (high >>> (12 * (state - HALF) + 4 * letter)) & 15;
        }

        boolean isEnd(int state) {
            return (ends >>> state & 1) != 0;
        }

        boolean isSame(Lang other) {
            return size == other.size && ends == other.ends && low == other.low && high == other.high;
        }

        boolean isAll() {
            return size == 1 && ends == 1;
        }

        boolean isNothing() {
            return ends == 0;
        }

        boolean isEmptyText() {
            return size == 2 && ends == 1 && low == 0x111111L;
        }
    }

    /** A statement. Its kind is the sign that tells it in the text. */
    static final class Node {
        private final int kind;
        private int variable;
        /** A pattern; or, for a replacement, the letter that goes. */
        private int operand;
        /** Where the parts begin in the code; the letter that comes, or NONE; or the number of the alarm. */
        private int extra;
        private Node first;
        private Node second;
        private Node next;

        Node(int kind) {
            this.kind = kind;
        }
    }

    /** A program as it was read; it is never changed. */
    static final class Program {
        private final Node first;
        private final int statements;
        /** The text without spaces. */
        private final byte[] code;
        private final int[] alarmPlaces;

        Program(Node first, int statements, byte[] code, int[] alarmPlaces) {
            this.first = first;
            this.statements = statements;
            this.code = code;
            this.alarmPlaces = alarmPlaces;
        }

        int alarmCount() {
            return alarmPlaces.length;
        }

        int alarmPlace(int j) {
            return j >= 0 && j < alarmPlaces.length ? alarmPlaces[j] : NONE;
        }

        int codeAt(int at) {
            return at >= 0 && at < code.length ? code[at] : NONE;
        }

        /** Where the letters end that begin at a place: at the apostrophe. */
        int quoteEnd(int from) {
            int end = from;
            while (end < code.length && codeAt(end) != '\'') {
                end++;
            }
            return end;
        }
    }

    /** What back() returns to; it is never changed. */
    static final class Setup {
        private final Lang[] patterns;
        private final Program program;
        private final int delay;
        private final int similar;

        Setup() {
            this(new Lang[] {new Lang(), new Lang(), new Lang(), new Lang()},
                    new Program(null, 0, new byte[0], new int[0]), 1, 1);
        }

        private Setup(Lang[] patterns, Program program, int delay, int similar) {
            this.patterns = patterns;
            this.program = program;
            this.delay = delay;
            this.similar = similar;
        }

        Setup withPattern(int i, Lang language) {
            Lang[] changed = new Lang[PATTERNS];
            for (int j = 0; j < PATTERNS; j++) {
                changed[j] = j == i ? language : patternAt(j);
            }
            return new Setup(changed, program, delay, similar);
        }

        Setup withProgram(Program read) {
            return new Setup(patterns, read, delay, similar);
        }

        Setup withDelay(int v) {
            return new Setup(patterns, program, v, similar);
        }

        Setup withSimilar(int v) {
            return new Setup(patterns, program, delay, v);
        }

        Lang patternAt(int i) {
            return patterns[i >= 0 && i < patterns.length ? i : 0];
        }
    }

    /** Reads the text buffer as a program. */
    static final class ProgramReader {
        private static final int END = -1;

        private byte[] bytes = new byte[0];
        private int length;
        private int at;
        private boolean failed;
        private int fault;
        private int statements;
        private int alarms;
        private final int[] alarmPlaces = new int[BUFFER];
        private int coded;
        private final byte[] code = new byte[BUFFER];

        /** Returns null, with the fault position in fault, if the text is no program. */
        Program read(byte[] from, int filled) {
            bytes = from;
            length = Math.min(filled, from.length);
            at = 0;
            failed = false;
            statements = 0;
            alarms = 0;
            coded = 0;
            Node first = block(0);
            if (!failed && peek() != END) {
                fail();
            }
            if (failed) {
                return null;
            }
            return new Program(first, statements, Arrays.copyOf(code, coded), Arrays.copyOf(alarmPlaces, alarms));
        }

        private Node block(int depth) {
            Node first = null;
            Node last = null;
            for (int i = 0; i < BUFFER && !failed && begins(peek()); i++) {
                Node node = statement(depth);
                if (last == null) {
                    first = node;
                } else {
                    last.next = node;
                }
                last = node;
            }
            return first;
        }

        private static boolean begins(int c) {
            return variableOf(c) >= 0 || c == '!' || c == '?' || c == '#' || c == '+' || c == '*';
        }

        private Node statement(int depth) {
            statements++;
            int sign = peek();
            int variable = variableOf(sign);
            if (variable >= 0) {
                at++;
                return change(variable);
            }
            Node node = new Node(sign);
            if (sign == '!') {
                noteAlarm(node);
            }
            at++;
            if (sign == '!' || sign == '?' || sign == '#') {
                node.variable = variable();
                node.operand = digit();
            }
            if (sign == '!') {
                take(';');
                return node;
            }
            node.first = braces(depth);
            if (sign == '?' || sign == '+') {
                node.second = braces(depth);
            }
            return node;
        }

        private void noteAlarm(Node node) {
            node.extra = alarms;
            if (alarms < alarmPlaces.length) {
                alarmPlaces[alarms] = at;
                alarms++;
            }
        }

        /** The statements that begin with a variable. */
        private Node change(int variable) {
            int sign = peek();
            Node node = new Node(sign);
            node.variable = variable;
            if (sign == '=') {
                at++;
                node.extra = coded;
                parts();
            } else if (sign == '/') {
                at++;
                node.operand = letter(false);
                node.extra = letter(true);
                take(';');
            } else {
                fail();
            }
            return node;
        }

        private void parts() {
            int c = END;
            for (int i = 0; i < BUFFER && !failed && c != ';'; i++) {
                c = peek();
                boolean fits = variableOf(c) >= 0 || c >= '0' && c <= '3' || c == '\'' || c == ';' && i > 0;
                if (!fits) {
                    fail();
                    return;
                }
                keep(c);
                if (c == '\'') {
                    quoted();
                }
            }
        }

        private void quoted() {
            int c = END;
            for (int i = 0; i < BUFFER && !failed && c != '\''; i++) {
                c = peek();
                if (c >= 'a' && c <= 'c' || c == '\'') {
                    keep(c);
                } else {
                    fail();
                }
            }
        }

        private void keep(int c) {
            at++;
            if (coded < code.length) {
                code[coded] = (byte) c;
                coded++;
            }
        }

        private Node braces(int depth) {
            if (depth >= DEPTH) {
                // Whatever stands here is a fault: also the brace, which alone could follow.
                peek();
                fail();
                return null;
            }
            take('{');
            if (failed) {
                return null;
            }
            Node first = block(depth + 1);
            take('}');
            return first;
        }

        private int variable() {
            int variable = variableOf(peek());
            if (variable < 0) {
                fail();
                return 0;
            }
            at++;
            return variable;
        }

        private int digit() {
            int c = peek();
            if (c < '0' || c > '3') {
                fail();
                return 0;
            }
            at++;
            return c - '0';
        }

        private int letter(boolean orNone) {
            int c = peek();
            boolean none = orNone && c == '-';
            if (!none && (c < 'a' || c > 'c')) {
                fail();
                return NONE;
            }
            at++;
            return none ? NONE : c - 'a';
        }

        private void take(int c) {
            if (peek() == c) {
                at++;
            } else {
                fail();
            }
        }

        private int peek() {
            while (at < length && bytes[at] == ' ') {
                at++;
            }
            return at < length ? bytes[at] : END;
        }

        /** Only the first fault counts: what is read behind it means nothing. */
        private void fail() {
            if (!failed) {
                failed = true;
                fault = at;
            }
        }

        private static int variableOf(int c) {
            switch (c) {
                case 'u':
                    return 0;
                case 'v':
                    return 1;
                case 'x':
                    return 2;
                case 'y':
                    return 3;
                default:
                    return NONE;
            }
        }
    }

    /**
     * Reads the text buffer as a pattern, by the positions of its letters: which can come first, which last, and
     * which behind which. A piece of a pattern is one int: ten bits of first positions, ten of last ones, and one
     * that tells whether the empty text belongs to it.
     */
    static final class PatternReader {
        private static final int MOST = 10;
        private static final int FIRSTS = (1 << MOST) - 1;
        private static final int EMPTY = 1 << 2 * MOST;

        /** For each parenthesis that stands open: the rows that are complete, and the row that is being read. */
        private final int[] rows = new int[BUFFER + 1];
        private final int[] row = new int[BUFFER + 1];
        private int open;
        /** The factor that a * or ? could still follow. */
        private int factor;
        private boolean waiting;
        private int letters;
        private final int[] behind = new int[MOST];
        private final int[] placesOf = new int[LETTERS];

        /** Returns the fault position, or NONE if the text is a pattern. */
        int read(byte[] bytes, int filled) {
            open = 0;
            rows[0] = 0;
            row[0] = EMPTY;
            waiting = false;
            letters = 0;
            Arrays.fill(behind, 0);
            Arrays.fill(placesOf, 0);
            int length = Math.min(filled, bytes.length);
            for (int at = 0; at < length; at++) {
                if (bytes[at] != ' ' && !take(bytes[at])) {
                    return at;
                }
            }
            if (open > 0) {
                return length;
            }
            settle();
            return NONE;
        }

        /** Makes the language of the pattern that was read. */
        void make(Maker maker, Lang out) {
            int all = rows[0] | row[0];
            int start = letters;
            maker.begin(letters + 1);
            for (int place = 0; place < letters && place < MOST; place++) {
                addSteps(maker, place, behind[place]);
            }
            addSteps(maker, start, all & FIRSTS);
            int ends = all >>> MOST & FIRSTS;
            maker.sign((all & EMPTY) != 0 ? ends | 1 << start : ends);
            if (!maker.finish(1 << start, out)) {
                out.makeAll();
            }
        }

        private void addSteps(Maker maker, int node, int places) {
            for (int letter = 0; letter < LETTERS; letter++) {
                maker.addStep(node, letter, places & placesOf[letter]);
            }
        }

        private boolean take(int c) {
            if (c == '*' || c == '?') {
                return repeat(c == '*');
            }
            settle();
            switch (c) {
                case 'a':
                case 'b':
                case 'c':
                case '.':
                    return addLetter(c);
                case '(':
                    return openGroup();
                case ')':
                    return closeGroup();
                case '|':
                    rows[open] |= row[open];
                    row[open] = EMPTY;
                    return true;
                default:
                    return false;
            }
        }

        private boolean repeat(boolean often) {
            if (!waiting) {
                return false;
            }
            if (often) {
                follow(factor >>> MOST & FIRSTS, factor & FIRSTS);
            }
            factor |= EMPTY;
            settle();
            return true;
        }

        private boolean addLetter(int c) {
            if (letters >= MOST) {
                return false;
            }
            int place = 1 << letters;
            for (int letter = 0; letter < LETTERS; letter++) {
                if (c == '.' || c == 'a' + letter) {
                    placesOf[letter] |= place;
                }
            }
            letters++;
            factor = place | place << MOST;
            waiting = true;
            return true;
        }

        private boolean openGroup() {
            if (open + 1 >= rows.length || open + 1 >= row.length) {
                return false;
            }
            open++;
            rows[open] = 0;
            row[open] = EMPTY;
            return true;
        }

        private boolean closeGroup() {
            if (open <= 0) {
                return false;
            }
            factor = rows[open] | row[open];
            waiting = true;
            open--;
            return true;
        }

        /** Puts the factor that waits behind the row. */
        private void settle() {
            if (!waiting) {
                return;
            }
            waiting = false;
            int before = row[open];
            follow(before >>> MOST & FIRSTS, factor & FIRSTS);
            int firsts = before & FIRSTS;
            if ((before & EMPTY) != 0) {
                firsts |= factor & FIRSTS;
            }
            int lasts = factor & FIRSTS << MOST;
            if ((factor & EMPTY) != 0) {
                lasts |= before & FIRSTS << MOST;
            }
            row[open] = firsts | lasts | before & factor & EMPTY;
        }

        private void follow(int lasts, int firsts) {
            for (int place = 0; place < MOST; place++) {
                if ((lasts >>> place & 1) != 0) {
                    behind[place] |= firsts;
                }
            }
        }
    }

    /**
     * Makes minimal automata. An operation describes a machine of at most 20 nodes; a state is a set of nodes, as a
     * bit mask. Which texts of at most two letters a state takes, its sign, tells states apart: more than ten
     * signs end the work early.
     */
    static final class Maker {
        private static final int WIDTH = 2 * SIZE;
        private static final long NODES = (1L << WIDTH) - 1;
        private static final int LEVELS = 2;
        private static final int ROW = LETTERS + 1;
        private static final int ROWS = 64;
        /** Above every number of states that a machine can have: that of CHAIN has at most 10 * 1024. */
        private static final int MOST_ROWS = 1 << 14;
        private static final int SPREAD = 0x9E3779B1;
        private static final int LARGE = 1 << 30;
        private static final int JOIN = 0;
        private static final int BOTH = 1;
        private static final int LESS = 2;

        /** For each node and letter the set of nodes that come, 20 bits each. */
        private final long[] steps = new long[WIDTH];
        private final long[] signs = new long[WIDTH];
        private final long[] wave = new long[WIDTH];
        private final long[] nextWave = new long[WIDTH];
        private int nodes;
        /** The nodes from this one on are those of the second operand. */
        private int split;
        private int way;
        private int made;
        private int limit;
        private int[] keys = new int[ROWS];
        /** For each state its three steps, and 1 if it is an end. */
        private int[] rows = new int[ROW * ROWS];
        /** Where a state is found by its key: base + 1 + its number; what is not above base means an empty slot. */
        private int[] slots = new int[2 * ROWS];
        private int base;
        private byte[] group = new byte[ROWS];
        private byte[] finer = new byte[ROWS];
        private final long[] seen = new long[SIZE];
        private int groups;

        void begin(int count) {
            nodes = count > WIDTH ? WIDTH : count;
            split = nodes;
            way = JOIN;
            for (int node = 0; node < nodes; node++) {
                steps[node] = 0;
            }
        }

        void addStep(int node, int letter, int to) {
            if (node >= 0 && node < WIDTH) {
                steps[node] |= (to & NODES) << (WIDTH * letter);
            }
        }

        void join(Lang a, Lang b, Lang out) {
            if (a.isSame(b) || a.isAll() || b.isNothing()) {
                out.set(a);
            } else if (b.isAll() || a.isNothing()) {
                out.set(b);
            } else {
                pair(a, b, JOIN);
                sign(a.ends | b.ends << split);
                if (!finish(1 | 1 << split, out)) {
                    out.makeAll();
                }
            }
        }

        void both(Lang a, Lang b, Lang out) {
            if (a.isSame(b) || b.isAll() || a.isNothing()) {
                out.set(a);
            } else if (a.isAll() || b.isNothing()) {
                out.set(b);
            } else {
                pair(a, b, BOTH);
                sign(a.ends | b.ends << split);
                if (!finish(1 | 1 << split, out)) {
                    out.set(a);
                }
            }
        }

        void less(Lang a, Lang b, Lang out) {
            if (a.isSame(b) || b.isAll()) {
                out.makeNothing();
            } else if (a.isNothing() || b.isNothing()) {
                out.set(a);
            } else {
                pair(a, b, LESS);
                sign(a.ends | b.ends << split);
                if (!finish(1 | 1 << split, out)) {
                    out.set(a);
                }
            }
        }

        /** The nodes are the states of two languages, and each step leads to the states of both. */
        private void pair(Lang a, Lang b, int how) {
            begin(a.size + b.size);
            split = a.size;
            way = how;
            for (int node = 0; node < nodes; node++) {
                Lang of = node < split ? a : b;
                int from = node < split ? 0 : split;
                for (int letter = 0; letter < LETTERS; letter++) {
                    addStep(node, letter, 1 << from + of.to(node - from, letter));
                }
            }
        }

        void chain(Lang a, Lang b, Lang out) {
            if (a.isEmptyText() || b.isNothing()) {
                out.set(b);
                return;
            }
            if (b.isEmptyText() || a.isNothing()) {
                out.set(a);
                return;
            }
            pair(a, b, JOIN);
            int over = 1 << split;
            for (int state = 0; state < a.size; state++) {
                for (int letter = 0; letter < LETTERS; letter++) {
                    if (a.isEnd(a.to(state, letter))) {
                        addStep(state, letter, over);
                    }
                }
            }
            sign(b.ends << split);
            if (!finish(a.isEnd(0) ? 1 | over : 1, out)) {
                out.makeAll();
            }
        }

        /** REPLACE; with is NONE if the letter is removed. */
        void replace(Lang a, int letter, int with, Lang out) {
            if (letter == with) {
                out.set(a);
                return;
            }
            begin(a.size);
            for (int state = 0; state < a.size; state++) {
                for (int other = 0; other < LETTERS; other++) {
                    int to = a.to(state, other);
                    if (other != letter) {
                        addStep(state, other, with == NONE ? closure(a, to, letter) : 1 << to);
                    } else if (with != NONE) {
                        addStep(state, with, 1 << to);
                    }
                }
            }
            sign(a.ends);
            if (!finish(with == NONE ? closure(a, 0, letter) : 1, out)) {
                out.makeAll();
            }
        }

        /** The states that some repetitions of a letter lead to. */
        private static int closure(Lang a, int from, int letter) {
            int mask = 0;
            int state = from;
            for (int i = 0; i < SIZE; i++) {
                mask |= 1 << state;
                state = a.to(state, letter);
            }
            return mask;
        }

        void widen(Lang a, int k, Lang out) {
            int count = 0;
            int ends = 0;
            for (int state = 0; state < a.size && state < SIZE; state++) {
                int kind = shortTexts(a, state, k);
                int same = 0;
                while (same < count && seen[same] != kind) {
                    same++;
                }
                if (same == count && count < SIZE) {
                    seen[count] = kind;
                    count++;
                }
                group[state] = (byte) same;
                ends |= (kind & 1) << same;
            }
            if (count == a.size) {
                out.set(a);
                return;
            }
            begin(count);
            for (int state = 0; state < a.size && state < SIZE; state++) {
                for (int letter = 0; letter < LETTERS; letter++) {
                    int to = a.to(state, letter);
                    addStep(group[state], letter, to < SIZE ? 1 << group[to] : 0);
                }
            }
            sign(ends);
            if (!finish(1, out)) {
                out.makeAll();
            }
        }

        /** The texts of at most k letters that a state takes, as a bit mask; the empty one is bit 0. */
        private static int shortTexts(Lang a, int state, int k) {
            int kind = a.isEnd(state) ? 1 : 0;
            for (int letter = 0; letter < LETTERS && k > 0; letter++) {
                if (a.isEnd(a.to(state, letter))) {
                    kind |= 2 << letter;
                }
            }
            return kind;
        }

        /** The language that has one text, which stands in the code. */
        void single(Program program, int from, int end, Lang out) {
            int length = end - from;
            if (length < 0 || length + 2 > SIZE) {
                out.makeAll();
                return;
            }
            begin(length + 1);
            for (int i = 0; i < length; i++) {
                addStep(i, program.codeAt(from + i) - 'a', 1 << i + 1);
            }
            sign(1 << length);
            if (!finish(1, out)) {
                out.makeAll();
            }
        }

        /** A wave has, for each node, the texts of one length that it takes. */
        void sign(int ends) {
            for (int node = 0; node < nodes; node++) {
                wave[node] = ends >>> node & 1;
                signs[node] = wave[node];
            }
            int width = 1;
            int at = 1;
            for (int level = 0; level < LEVELS; level++) {
                for (int node = 0; node < nodes; node++) {
                    nextWave[node] = gather(steps[node], width);
                }
                width *= LETTERS;
                for (int node = 0; node < nodes; node++) {
                    wave[node] = nextWave[node];
                    signs[node] |= wave[node] << at;
                }
                at += width;
            }
        }

        private long gather(long step, int width) {
            long all = 0;
            for (int letter = 0; letter < LETTERS; letter++) {
                long mask = step >>> (WIDTH * letter) & NODES;
                long taken = 0;
                for (int node = 0; node < nodes && mask != 0; node++) {
                    if ((mask & 1) != 0) {
                        taken |= wave[node];
                    }
                    mask >>>= 1;
                }
                all |= taken << (width * letter);
            }
            return all;
        }

        /** Finds the states that can be reached, and makes the language. Returns false if its size is above ten. */
        boolean finish(int start, Lang out) {
            forget();
            made = 0;
            groups = 0;
            limit = ROWS;
            boolean fits = place(start) >= 0;
            for (int state = 0; fits && state < made && state < MOST_ROWS; state++) {
                if (made + LETTERS > limit) {
                    fits = 2 * limit <= MOST_ROWS;
                    if (fits) {
                        enlarge();
                    }
                }
                long to = 0;
                int key = keys[state];
                for (int node = 0; node < nodes && key != 0; node++) {
                    if ((key & 1) != 0) {
                        to |= steps[node];
                    }
                    key >>>= 1;
                }
                for (int letter = 0; fits && letter < LETTERS; letter++) {
                    int next = place((int) (to >>> (WIDTH * letter) & NODES));
                    fits = next >= 0;
                    rows[ROW * state + letter] = next;
                }
            }
            if (!fits || !refine()) {
                return false;
            }
            write(out);
            return true;
        }

        /** The number of a state, which is made if it is new; NONE if its sign is the eleventh. */
        private int place(int key) {
            int last = 2 * limit - 1;
            int slot = key * SPREAD >>> 8 & last;
            for (int i = 0; i < last && slots[slot] > base; i++) {
                int known = slots[slot] - base - 1;
                if (keys[known] == key) {
                    return known;
                }
                slot = slot + 1 & last;
            }
            long low = 0;
            long high = 0;
            for (int node = 0; node < nodes; node++) {
                if ((key >>> node & 1) != 0 && node < split) {
                    low |= signs[node];
                } else if ((key >>> node & 1) != 0) {
                    high |= signs[node];
                }
            }
            long sign = way == BOTH ? low & high : way == LESS ? low & ~high : low | high;
            int same = 0;
            while (same < groups && seen[same] != sign) {
                same++;
            }
            if (same >= SIZE || made >= limit) {
                return NONE;
            }
            if (same == groups) {
                seen[groups] = sign;
                groups++;
            }
            keys[made] = key;
            rows[ROW * made + LETTERS] = (int) (sign & 1);
            group[made] = (byte) same;
            made++;
            slots[slot] = base + made;
            return made - 1;
        }

        /** Makes room for twice as many states; they are found by their keys at other slots then. */
        private void enlarge() {
            limit *= 2;
            base += made;
            if (keys.length < limit) {
                int[] moreKeys = new int[limit];
                int[] moreRows = new int[ROW * limit];
                byte[] moreGroup = new byte[limit];
                for (int state = 0; state < made; state++) {
                    moreKeys[state] = keys[state];
                    moreGroup[state] = group[state];
                }
                for (int i = 0; i < ROW * made; i++) {
                    moreRows[i] = rows[i];
                }
                keys = moreKeys;
                rows = moreRows;
                group = moreGroup;
                finer = new byte[limit];
                slots = new int[2 * limit];
            }
            int last = 2 * limit - 1;
            for (int state = 0; state < made; state++) {
                int slot = keys[state] * SPREAD >>> 8 & last;
                for (int i = 0; i < last && slots[slot] > base; i++) {
                    slot = slot + 1 & last;
                }
                slots[slot] = base + state + 1;
            }
        }

        /** Makes all slots empty. */
        private void forget() {
            base += made;
            if (base > LARGE) {
                base = 0;
                for (int slot = 0; slot < slots.length; slot++) {
                    slots[slot] = 0;
                }
            }
        }

        /** Splits the groups until equal steps lead to equal groups. Returns false if there are more than ten. */
        private boolean refine() {
            int before = 0;
            for (int round = 0; round <= SIZE && groups != before && groups < made; round++) {
                before = groups;
                groups = 0;
                for (int state = 0; state < made; state++) {
                    int row = ROW * state;
                    long key = group[state] | group[rows[row]] << 4 | group[rows[row + 1]] << 8
                            | group[rows[row + 2]] << 12;
                    int same = 0;
                    while (same < groups && seen[same] != key) {
                        same++;
                    }
                    if (same >= SIZE) {
                        return false;
                    }
                    if (same == groups) {
                        seen[groups] = key;
                        groups++;
                    }
                    finer[state] = (byte) same;
                }
                byte[] old = group;
                group = finer;
                finer = old;
            }
            return true;
        }

        /** Groups are numbered in the order of their first states, and states in that of their smallest texts. */
        private void write(Lang out) {
            long low = 0;
            long high = 0;
            int ends = 0;
            int written = 0;
            for (int state = 0; state < made && written < groups; state++) {
                if (group[state] == written) {
                    int row = ROW * state;
                    long to = group[rows[row]] | group[rows[row + 1]] << 4 | group[rows[row + 2]] << 8;
                    if (written < Lang.HALF) {
                        low |= to << 12 * written;
                    } else {
                        high |= to << 12 * (written - Lang.HALF);
                    }
                    ends |= rows[row + LETTERS] << written;
                    written++;
                }
            }
            out.low = low;
            out.high = high;
            out.ends = ends;
            out.size = written;
        }
    }

    /** Lengths, numbers and texts of languages. */
    static final class Texts {
        /** Of two lengths of texts that follow each other the difference is at most ten: 9 + 20 * 10 is enough. */
        private static final int LONGEST = 220;
        private static final int ENOUGH = 100;
        private static final int PAIRS = SIZE * SIZE;

        /** For each length and state how many texts the state takes; a number above ENOUGH counts as ENOUGH. */
        private final byte[] ways = new byte[LONGEST * SIZE];
        private final byte[] letters = new byte[LONGEST];
        private final byte[] queue = new byte[PAIRS];
        /** For each pair of states 1 + the pair before it, and the letter between them; the first pair has 101. */
        private final byte[] before = new byte[PAIRS];
        private final byte[] by = new byte[PAIRS];
        /** For each state how many texts of one length it takes, and of one letter less. */
        private final long[] counts = new long[SIZE];
        private final long[] shorter = new long[SIZE];

        int letter(int i) {
            return i >= 0 && i < letters.length ? letters[i] : 0;
        }

        int shortest(Lang a) {
            int mask = a.ends;
            for (int length = 0; length < SIZE; length++) {
                if ((mask & 1) != 0) {
                    return length;
                }
                mask = leadingTo(a, mask);
            }
            return NONE;
        }

        /** A language with a text of at least ten letters has one of 10 to 19 letters, and is endless. */
        int longest(Lang a) {
            int mask = a.ends;
            int last = NONE;
            for (int length = 0; length < 2 * SIZE; length++) {
                if ((mask & 1) != 0) {
                    last = length;
                }
                mask = leadingTo(a, mask);
            }
            return last >= SIZE ? ENDLESS : last;
        }

        private static int leadingTo(Lang a, int mask) {
            int from = 0;
            for (int state = 0; state < a.size; state++) {
                for (int letter = 0; letter < LETTERS; letter++) {
                    from |= (mask >>> a.to(state, letter) & 1) << state;
                }
            }
            return from;
        }

        long ofLength(Lang a, int n) {
            for (int state = 0; state < SIZE; state++) {
                counts[state] = a.isEnd(state) ? 1 : 0;
            }
            for (int i = 0; i < n; i++) {
                System.arraycopy(counts, 0, shorter, 0, SIZE);
                for (int state = 0; state < SIZE; state++) {
                    counts[state] = 0;
                    for (int letter = 0; letter < LETTERS; letter++) {
                        counts[state] += shorter[Math.min(a.to(state, letter), SIZE - 1)];
                    }
                }
            }
            return counts[0];
        }

        /** How many texts a language has; a number above most counts as most. */
        int upTo(Lang a, int most) {
            int sum = 0;
            int last = NONE;
            for (int length = 0; length < LONGEST && length - last <= SIZE && sum < most; length++) {
                fill(a, length);
                int here = ways[length * SIZE];
                sum += here;
                last = here > 0 ? length : last;
            }
            return Math.min(sum, most);
        }

        /** Finds text k of a language. Returns its length, or NONE if there are not so many texts. */
        int find(Lang a, int k) {
            int rest = k;
            int last = NONE;
            for (int length = 0; length < LONGEST && length - last <= SIZE; length++) {
                fill(a, length);
                int here = ways[length * SIZE];
                if (rest < here) {
                    spell(a, length, rest);
                    return length;
                }
                rest -= here;
                last = here > 0 ? length : last;
            }
            return NONE;
        }

        private void fill(Lang a, int length) {
            for (int state = 0; state < SIZE; state++) {
                int sum = length == 0 && a.isEnd(state) ? 1 : 0;
                for (int letter = 0; letter < LETTERS && length > 0; letter++) {
                    sum += ways[(length - 1) * SIZE + Math.min(a.to(state, letter), SIZE - 1)];
                }
                ways[length * SIZE + state] = (byte) Math.min(sum, ENOUGH);
            }
        }

        private void spell(Lang a, int length, int k) {
            int rest = k;
            int state = 0;
            for (int i = 0; i < length; i++) {
                int letter = 0;
                int here = waysFrom(a.to(state, 0), length - 1 - i);
                while (letter < LETTERS - 1 && rest >= here) {
                    rest -= here;
                    letter++;
                    here = waysFrom(a.to(state, letter), length - 1 - i);
                }
                letters[i] = (byte) letter;
                state = a.to(state, letter);
            }
        }

        private int waysFrom(int state, int length) {
            return state < SIZE && length >= 0 && length < LONGEST ? ways[length * SIZE + state] : 0;
        }

        /**
         * Finds the smallest text that is in a, and in b or, if inside is false, not in b. Returns its length, or
         * NONE if there is none.
         */
        int smallest(Lang a, Lang b, boolean inside) {
            Arrays.fill(before, (byte) 0);
            before[0] = PAIRS + 1;
            queue[0] = 0;
            int found = 1;
            for (int i = 0; i < found && i < PAIRS; i++) {
                int pair = queue[i];
                int p = pair / SIZE;
                int q = pair % SIZE;
                if (a.isEnd(p) && b.isEnd(q) == inside) {
                    return trace(pair);
                }
                for (int letter = 0; letter < LETTERS; letter++) {
                    int to = Math.min(a.to(p, letter) * SIZE + b.to(q, letter), PAIRS - 1);
                    if (before[to] == 0 && found < PAIRS) {
                        before[to] = (byte) (pair + 1);
                        by[to] = (byte) letter;
                        queue[found] = (byte) to;
                        found++;
                    }
                }
            }
            return NONE;
        }

        /** Writes the letters that lead to a pair, which are found from the last to the first. */
        private int trace(int pair) {
            int length = 0;
            int at = pair;
            while (at > 0 && length < PAIRS) {
                at = before[at] - 1;
                length++;
            }
            at = pair;
            for (int i = length - 1; i >= 0 && at > 0; i--) {
                letters[i] = by[at];
                at = before[at] - 1;
            }
            return length;
        }
    }

    /** An abstract state. */
    static final class State {
        private final Lang[] of = new Lang[VARIABLES];
        private boolean possible;

        State() {
            for (int v = 0; v < VARIABLES; v++) {
                of[v] = new Lang();
            }
        }

        void set(State other) {
            possible = other.possible;
            for (int v = 0; v < VARIABLES; v++) {
                of[v].set(other.of[v]);
            }
        }

        Lang at(int v) {
            return of[v >= 0 && v < VARIABLES ? v : 0];
        }
    }

    /** Interprets a program over languages, and keeps the result of the latest time. */
    static final class Analysis {
        private static final int LONGEST = Texts.PAIRS;
        private static final int PATIENCE = 20;
        /** No loop needs more: behind PATIENCE rounds each round but the last makes a language ALL. */
        private static final int ROUNDS = PATIENCE + VARIABLES + 1;

        private final Maker maker;
        private final Texts texts;
        private Setup setup;
        private final State now = new State();
        /** Two for each depth: what a loop or a choice keeps while what is inside it is applied. */
        private final State[] kept = new State[2 * DEPTH];
        private final Lang whole = new Lang();
        private final Lang part = new Lang();
        private int rounds;
        private int most;
        private final int[] lengths = new int[BUFFER];
        private byte[] smallest = new byte[0];

        Analysis(Maker maker, Texts texts) {
            this.maker = maker;
            this.texts = texts;
            for (int i = 0; i < kept.length; i++) {
                kept[i] = new State();
            }
        }

        boolean isPossible() {
            return now.possible;
        }

        Lang behind(int v) {
            return now.at(v);
        }

        int allRounds() {
            return rounds;
        }

        int mostRounds() {
            return most;
        }

        /** How many letters the smallest text of an alarm has, or NONE. */
        int raisedLength(int j) {
            return j >= 0 && j < lengths.length ? lengths[j] : NONE;
        }

        int raisedLetter(int j, int i) {
            int at = j * LONGEST + i;
            return at >= 0 && at < smallest.length ? smallest[at] : 0;
        }

        /** Analyses, if that was not done already with just these patterns, program and settings. */
        void refresh(Setup wanted) {
            if (wanted == setup) {
                return;
            }
            setup = wanted;
            rounds = 0;
            most = 0;
            Arrays.fill(lengths, NONE);
            if (smallest.length < wanted.program.alarmCount() * LONGEST) {
                smallest = new byte[wanted.program.alarmCount() * LONGEST];
            }
            for (int v = 0; v < VARIABLES; v++) {
                now.at(v).makeEmptyText();
            }
            now.possible = true;
            block(wanted.program.first, 0);
        }

        private void block(Node first, int depth) {
            for (Node node = first; node != null && now.possible; node = node.next) {
                switch (node.kind) {
                    case '=':
                        assign(node);
                        break;
                    case '/':
                        Lang language = now.at(node.variable);
                        maker.replace(language, node.operand, node.extra, language);
                        break;
                    case '!':
                        look(node);
                        break;
                    case '?':
                    case '+':
                        choose(node, depth);
                        break;
                    default:
                        loop(node, depth);
                        break;
                }
            }
        }

        private void assign(Node node) {
            Program program = setup.program;
            int at = node.extra;
            for (int i = 0; i < BUFFER && program.codeAt(at) != ';'; i++) {
                int sign = program.codeAt(at);
                int end = at;
                if (sign == '\'') {
                    end = program.quoteEnd(at + 1);
                    maker.single(program, at + 1, end, part);
                } else if (sign >= '0' && sign <= '3') {
                    part.set(setup.patternAt(sign - '0'));
                } else {
                    part.set(now.at(ProgramReader.variableOf(sign)));
                }
                at = end + 1;
                if (i == 0) {
                    whole.set(part);
                } else {
                    maker.chain(whole, part, whole);
                }
            }
            now.at(node.variable).set(whole);
        }

        private void look(Node node) {
            int j = node.extra;
            if (j < 0 || j >= lengths.length) {
                return;
            }
            int length = texts.smallest(now.at(node.variable), setup.patternAt(node.operand), true);
            if (length < 0 || lengths[j] >= 0 && !isSmaller(length, j)) {
                return;
            }
            lengths[j] = length;
            for (int i = 0; i < length && j * LONGEST + i < smallest.length; i++) {
                smallest[j * LONGEST + i] = (byte) texts.letter(i);
            }
        }

        /** Whether the text that was just found is smaller than that of an alarm. */
        private boolean isSmaller(int length, int j) {
            if (length != raisedLength(j)) {
                return length < raisedLength(j);
            }
            int i = 0;
            while (i < length && texts.letter(i) == raisedLetter(j, i)) {
                i++;
            }
            return i < length && texts.letter(i) < raisedLetter(j, i);
        }

        private void choose(Node node, int depth) {
            if (depth < 0 || depth >= DEPTH) {
                return;
            }
            State other = kept[2 * depth];
            State done = kept[2 * depth + 1];
            other.set(now);
            narrow(node, true);
            block(node.first, depth + 1);
            done.set(now);
            now.set(other);
            narrow(node, false);
            block(node.second, depth + 1);
            if (!now.possible) {
                now.set(done);
            } else if (done.possible) {
                for (int v = 0; v < VARIABLES; v++) {
                    maker.join(now.at(v), done.at(v), now.at(v));
                }
            }
        }

        private void loop(Node node, int depth) {
            if (depth < 0 || depth >= DEPTH) {
                return;
            }
            State head = kept[2 * depth];
            head.set(now);
            boolean last = false;
            int round = 0;
            while (round < ROUNDS && !last) {
                now.set(head);
                narrow(node, true);
                block(node.first, depth + 1);
                last = !now.possible || !grow(head, round);
                round++;
            }
            rounds += round;
            most = Math.max(most, round);
            now.set(head);
            narrow(node, false);
        }

        /** Joins what came from a round with the head. Returns whether that changed the head. */
        private boolean grow(State head, int round) {
            boolean changed = false;
            for (int v = 0; v < VARIABLES; v++) {
                Lang old = head.at(v);
                maker.join(old, now.at(v), whole);
                if (!whole.isSame(old)) {
                    changed = true;
                    if (round >= PATIENCE) {
                        old.makeAll();
                    } else if (round >= setup.delay) {
                        maker.widen(whole, setup.similar, old);
                    } else {
                        old.set(whole);
                    }
                }
            }
            return changed;
        }

        /** Where a statement tests a variable, keeps only the texts that pass the test, or only the others. */
        private void narrow(Node node, boolean passing) {
            if (node.kind != '?' && node.kind != '#') {
                return;
            }
            Lang language = now.at(node.variable);
            if (passing) {
                maker.both(language, setup.patternAt(node.operand), language);
            } else {
                maker.less(language, setup.patternAt(node.operand), language);
            }
            now.possible = !language.isNothing();
        }
    }

    /** Runs a program once, and keeps the result of the latest run that was not lost. */
    static final class Runner {
        private static final int STEPS = 100;
        private static final int LONGEST = 40;
        private static final int CHOICE = 8;

        private final Texts texts;
        private Setup setup;
        private long random;
        private int steps;
        private boolean lost;
        private int rings;
        private final byte[] letters = new byte[VARIABLES * LONGEST];
        private final int[] lengths = new int[VARIABLES];
        private final byte[] fresh = new byte[LONGEST];
        private int freshLength;
        private final byte[] keptLetters = new byte[VARIABLES * LONGEST];
        private final int[] keptLengths = new int[VARIABLES];
        private int keptRings;

        Runner(Texts texts) {
            this.texts = texts;
        }

        int keptLength(int v) {
            return v >= 0 && v < VARIABLES ? keptLengths[v] : 0;
        }

        int keptLetter(int v, int i) {
            int at = v * LONGEST + i;
            return at >= 0 && at < keptLetters.length ? keptLetters[at] : 0;
        }

        int keptRings() {
            return keptRings;
        }

        boolean keptIsIn(int v, Lang language) {
            int state = 0;
            for (int i = 0; i < keptLength(v); i++) {
                state = language.to(state, keptLetter(v, i));
            }
            return language.isEnd(state);
        }

        /** Returns the number of steps, or LOST. */
        int start(Setup with, int seed) {
            setup = with;
            random = seed;
            steps = 0;
            lost = false;
            rings = 0;
            Arrays.fill(lengths, 0);
            block(with.program.first, 0);
            if (lost) {
                return LOST;
            }
            System.arraycopy(letters, 0, keptLetters, 0, letters.length);
            System.arraycopy(lengths, 0, keptLengths, 0, lengths.length);
            keptRings = rings;
            return steps;
        }

        private void block(Node first, int depth) {
            for (Node node = first; node != null && !lost && depth <= DEPTH; node = node.next) {
                boolean loops = node.kind == '#' || node.kind == '*';
                if (!loops && !countStep()) {
                    return;
                }
                switch (node.kind) {
                    case '=':
                        assign(node);
                        break;
                    case '/':
                        replace(node);
                        break;
                    case '!':
                        rings += passes(node) ? 1 : 0;
                        break;
                    case '?':
                        block(passes(node) ? node.first : node.second, depth + 1);
                        break;
                    case '+':
                        block(draw(2) == 0 ? node.first : node.second, depth + 1);
                        break;
                    default:
                        loop(node, depth);
                        break;
                }
            }
        }

        private boolean countStep() {
            if (steps >= STEPS) {
                lost = true;
            } else {
                steps++;
            }
            return !lost;
        }

        private void loop(Node node, int depth) {
            boolean again = true;
            for (int i = 0; i <= STEPS && again && countStep(); i++) {
                again = node.kind == '#' ? passes(node) : draw(3) != 0;
                if (again) {
                    block(node.first, depth + 1);
                }
            }
        }

        private int draw(int below) {
            random = random * 1103515245L + 12345L & 0x7FFFFFFFL;
            return below > 0 ? (int) (random / 65536 % below) : 0;
        }

        private int lengthOf(int v) {
            return v >= 0 && v < VARIABLES ? lengths[v] : 0;
        }

        private int letterOf(int v, int i) {
            int at = v * LONGEST + i;
            return at >= 0 && at < letters.length ? letters[at] : 0;
        }

        private boolean passes(Node node) {
            Lang language = setup.patternAt(node.operand);
            int state = 0;
            for (int i = 0; i < lengthOf(node.variable); i++) {
                state = language.to(state, letterOf(node.variable, i));
            }
            return language.isEnd(state);
        }

        private void assign(Node node) {
            Program program = setup.program;
            freshLength = 0;
            boolean quoted = false;
            int at = node.extra;
            for (int i = 0; i < BUFFER && !lost && program.codeAt(at) != ';'; i++) {
                int sign = program.codeAt(at);
                if (sign == '\'') {
                    quoted = !quoted;
                } else if (quoted) {
                    append(sign - 'a');
                } else if (sign >= '0' && sign <= '3') {
                    appendAny(setup.patternAt(sign - '0'));
                } else {
                    appendVariable(ProgramReader.variableOf(sign));
                }
                at++;
            }
            if (!lost) {
                keepFresh(node.variable);
            }
        }

        private void append(int letter) {
            if (freshLength >= fresh.length) {
                lost = true;
            } else {
                fresh[freshLength] = (byte) letter;
                freshLength++;
            }
        }

        private void appendAny(Lang language) {
            int number = draw(texts.upTo(language, CHOICE));
            int length = texts.find(language, number);
            for (int i = 0; i < length && !lost; i++) {
                append(texts.letter(i));
            }
        }

        private void appendVariable(int v) {
            for (int i = 0; i < lengthOf(v) && !lost; i++) {
                append(letterOf(v, i));
            }
        }

        private void keepFresh(int v) {
            if (v >= 0 && v < VARIABLES) {
                System.arraycopy(fresh, 0, letters, v * LONGEST, freshLength);
                lengths[v] = freshLength;
            }
        }

        private void replace(Node node) {
            freshLength = 0;
            for (int i = 0; i < lengthOf(node.variable); i++) {
                int letter = letterOf(node.variable, i);
                if (letter != node.operand) {
                    append(letter);
                } else if (node.extra != NONE) {
                    append(node.extra);
                }
            }
            keepFresh(node.variable);
        }
    }
}
