import java.util.ArrayDeque;
import java.util.ArrayList;
import java.util.Arrays;
import java.util.HashMap;
import java.util.LinkedHashMap;
import java.util.List;
import java.util.Map;
import java.util.Set;
import java.util.TreeSet;
import java.util.function.BiFunction;
import java.util.function.Predicate;

/**
 * The document once more, as plainly as the Java library allows and without a thought for time or room: the tests
 * compare TextValues with it.
 */
final class Model {
    static final int NONE = -1, BAD = -2, NO = -3, FULL = -4, FEWER = -5, LOST = -6, ENDLESS = 1000;

    // ---------------------------------------------------------------- languages

    /** A minimal complete automaton; state 0 is the first one. */
    record Lang(int[][] to, boolean[] end) {
        int size() {
            return to.length;
        }

        boolean has(String t) {
            int s = 0;
            for (char c : t.toCharArray()) {
                s = to[s][c - 'a'];
            }
            return end[s];
        }

        boolean same(Lang o) {
            return Arrays.deepEquals(to, o.to) && Arrays.equals(end, o.end);
        }

        boolean nothing() {
            return size() == 1 && !end[0];
        }

        boolean all() {
            return size() == 1 && end[0];
        }

        long many(int s, int n) {
            long[] now = new long[size()];
            for (int i = 0; i < size(); i++) {
                now[i] = end[i] ? 1 : 0;
            }
            for (int k = 0; k < n; k++) {
                long[] next = new long[size()];
                for (int i = 0; i < size(); i++) {
                    for (int c = 0; c < 3; c++) {
                        next[i] += now[to[i][c]];
                    }
                }
                now = next;
            }
            return now[s];
        }

        boolean some(int s, int n) {
            Set<Integer> now = Set.of(s);
            for (int k = 0; k < n; k++) {
                Set<Integer> next = new TreeSet<>();
                for (int i : now) {
                    for (int c = 0; c < 3; c++) {
                        next.add(to[i][c]);
                    }
                }
                now = next;
            }
            return now.stream().anyMatch(i -> end[i]);
        }

        /** The smallest texts, at most k of them. */
        List<String> texts(int k) {
            List<String> out = new ArrayList<>();
            int last = 0;
            for (int n = 0; n <= 300 && n <= last + 40 && out.size() < k; n++) {
                if (some(0, n)) {
                    walk(0, n, "", k, out);
                    last = n;
                }
            }
            return out;
        }

        private void walk(int s, int n, String t, int k, List<String> out) {
            if (out.size() >= k || !some(s, n)) {
                return;
            }
            if (n == 0) {
                out.add(t);
                return;
            }
            for (int c = 0; c < 3; c++) {
                walk(to[s][c], n - 1, t + (char) ('a' + c), k, out);
            }
        }
    }

    /** The minimal automaton of a deterministic machine that is given by its first state, its steps and its ends. */
    static <S> Lang minimal(S first, BiFunction<S, Integer, S> step, Predicate<S> ends) {
        Map<S, Integer> number = new LinkedHashMap<>();
        List<S> states = new ArrayList<>();
        List<int[]> steps = new ArrayList<>();
        number.put(first, 0);
        states.add(first);
        for (int i = 0; i < states.size(); i++) {
            int[] row = new int[3];
            for (int c = 0; c < 3; c++) {
                S t = step.apply(states.get(i), c);
                Integer known = number.get(t);
                if (known == null) {
                    known = states.size();
                    number.put(t, known);
                    states.add(t);
                }
                row[c] = known;
            }
            steps.add(row);
        }
        int n = states.size();
        boolean[] end = new boolean[n];
        int[] kind = new int[n];
        for (int i = 0; i < n; i++) {
            end[i] = ends.test(states.get(i));
            kind[i] = end[i] ? 1 : 0;
        }
        int kinds = -1;
        while (true) {
            Map<List<Integer>, Integer> names = new HashMap<>();
            int[] fresh = new int[n];
            for (int i = 0; i < n; i++) {
                int[] r = steps.get(i);
                fresh[i] = names.computeIfAbsent(List.of(kind[i], kind[r[0]], kind[r[1]], kind[r[2]]),
                        x -> names.size());
            }
            kind = fresh;
            if (names.size() == kinds) {
                break;
            }
            kinds = names.size();
        }
        // numbered anew by a walk from the first state
        Map<Integer, Integer> place = new HashMap<>();
        List<Integer> order = new ArrayList<>();
        place.put(kind[0], 0);
        order.add(0);
        List<int[]> to = new ArrayList<>();
        for (int i = 0; i < order.size(); i++) {
            int[] row = new int[3];
            for (int c = 0; c < 3; c++) {
                int t = steps.get(order.get(i))[c];
                if (!place.containsKey(kind[t])) {
                    place.put(kind[t], order.size());
                    order.add(t);
                }
                row[c] = place.get(kind[t]);
            }
            to.add(row);
        }
        boolean[] fin = new boolean[order.size()];
        for (int i = 0; i < fin.length; i++) {
            fin[i] = end[order.get(i)];
        }
        return new Lang(to.toArray(new int[0][]), fin);
    }

    /** A machine that can be in several places at once; letter 3 stands for a step without a letter. */
    static final class Net {
        final List<List<int[]>> arcs = new ArrayList<>();
        final Set<Integer> ends = new TreeSet<>();
        int first;

        int place() {
            arcs.add(new ArrayList<>());
            return arcs.size() - 1;
        }

        void arc(int from, int c, int to) {
            arcs.get(from).add(new int[] {c, to});
        }

        Set<Integer> closed(Set<Integer> from) {
            Set<Integer> out = new TreeSet<>(from);
            ArrayDeque<Integer> todo = new ArrayDeque<>(from);
            while (!todo.isEmpty()) {
                for (int[] a : arcs.get(todo.poll())) {
                    if (a[0] == 3 && out.add(a[1])) {
                        todo.add(a[1]);
                    }
                }
            }
            return out;
        }

        Set<Integer> step(Set<Integer> from, int c) {
            Set<Integer> out = new TreeSet<>();
            for (int p : from) {
                for (int[] a : arcs.get(p)) {
                    if (a[0] == c) {
                        out.add(a[1]);
                    }
                }
            }
            return closed(out);
        }

        Lang lang() {
            return minimal(closed(Set.of(first)), this::step, s -> s.stream().anyMatch(ends::contains));
        }

        /** Adds the automaton of a language; returns where it begins in this machine. */
        int add(Lang l) {
            int base = arcs.size();
            for (int i = 0; i < l.size(); i++) {
                place();
            }
            for (int i = 0; i < l.size(); i++) {
                for (int c = 0; c < 3; c++) {
                    arc(base + i, c, base + l.to[i][c]);
                }
            }
            return base;
        }
    }

    static final Lang ALL = new Lang(new int[][] {{0, 0, 0}}, new boolean[] {true});

    static Lang capped(Lang l, Lang instead) {
        return l.size() > 10 ? instead : l;
    }

    static Lang product(Lang a, Lang b, BiFunction<Boolean, Boolean, Boolean> how) {
        return minimal(List.of(0, 0), (s, c) -> List.of(a.to[s.get(0)][c], b.to[s.get(1)][c]),
                s -> how.apply(a.end[s.get(0)], b.end[s.get(1)]));
    }

    static Lang join(Lang a, Lang b) {
        return capped(product(a, b, (x, y) -> x || y), ALL);
    }

    static Lang both(Lang a, Lang b) {
        return capped(product(a, b, (x, y) -> x && y), a);
    }

    static Lang less(Lang a, Lang b) {
        return capped(product(a, b, (x, y) -> x && !y), a);
    }

    static Lang chain(Lang a, Lang b) {
        Net n = new Net();
        int p = n.add(a);
        int q = n.add(b);
        n.first = p;
        for (int i = 0; i < a.size(); i++) {
            if (a.end[i]) {
                n.arc(p + i, 3, q);
            }
        }
        for (int i = 0; i < b.size(); i++) {
            if (b.end[i]) {
                n.ends.add(q + i);
            }
        }
        return capped(n.lang(), ALL);
    }

    /** with is 3 if the letter is removed. */
    static Lang replace(Lang a, int letter, int with) {
        Net n = new Net();
        for (int i = 0; i < a.size(); i++) {
            n.place();
            if (a.end[i]) {
                n.ends.add(i);
            }
        }
        for (int i = 0; i < a.size(); i++) {
            for (int c = 0; c < 3; c++) {
                n.arc(i, c == letter ? with : c, a.to[i][c]);
            }
        }
        return capped(n.lang(), ALL);
    }

    static Lang widen(Lang a, int k) {
        Net n = new Net();
        n.add(a);
        for (int i = 0; i < a.size(); i++) {
            if (a.end[i]) {
                n.ends.add(i);
            }
            for (int j = 0; j < a.size(); j++) {
                boolean similar = a.end[i] == a.end[j];
                for (int c = 0; c < 3 && k == 1; c++) {
                    similar &= a.end[a.to[i][c]] == a.end[a.to[j][c]];
                }
                if (similar) {
                    n.arc(i, 3, j);
                }
            }
        }
        return capped(n.lang(), ALL);
    }

    static Lang single(String t) {
        Net n = new Net();
        for (int i = 0; i <= t.length(); i++) {
            n.place();
        }
        for (int i = 0; i < t.length(); i++) {
            n.arc(i, t.charAt(i) - 'a', i + 1);
        }
        n.ends.add(t.length());
        return capped(n.lang(), ALL);
    }

    /** The smallest text of the exact intersection, or null. */
    static String common(Lang a, Lang b) {
        List<String> one = product(a, b, (x, y) -> x && y).texts(1);
        return one.isEmpty() ? null : one.get(0);
    }

    static boolean smaller(String s, String t) {
        return s.length() != t.length() ? s.length() < t.length() : s.compareTo(t) < 0;
    }

    // ---------------------------------------------------------------- reading

    static final class Fault extends RuntimeException {
        final int at;

        Fault(int at) {
            super("fault", null, false, false);
            this.at = at;
        }
    }

    /** The text without spaces, with the index of each sign; what follows the last sign is the end, '$'. */
    static final class Signs {
        final StringBuilder signs = new StringBuilder();
        final List<Integer> places = new ArrayList<>();
        int at;

        Signs(String text) {
            for (int i = 0; i < text.length(); i++) {
                if (text.charAt(i) != ' ') {
                    signs.append(text.charAt(i) == '$' ? '%' : text.charAt(i));
                    places.add(i);
                }
            }
            signs.append('$');
            places.add(text.length());
        }

        char peek() {
            return signs.charAt(at);
        }

        int place() {
            return places.get(at);
        }

        char next(String allowed) {
            if (allowed.indexOf(peek()) < 0) {
                throw new Fault(place());
            }
            return signs.charAt(at++);
        }
    }

    static Lang readPattern(String text) {
        Signs s = new Signs(text);
        Net n = new Net();
        int[] letters = {0};
        int[] ends = rows(s, n, letters);
        s.next("$");
        n.first = ends[0];
        n.ends.add(ends[1]);
        return capped(n.lang(), ALL);
    }

    /** Each part of a pattern is between two places of the machine. */
    private static int[] rows(Signs s, Net n, int[] letters) {
        int from = n.place();
        int to = n.place();
        while (true) {
            int at = n.place();
            n.arc(from, 3, at);
            while ("abc.(".indexOf(s.peek()) >= 0) {
                int[] f = factor(s, n, letters);
                n.arc(at, 3, f[0]);
                at = f[1];
            }
            n.arc(at, 3, to);
            if (s.peek() != '|') {
                return new int[] {from, to};
            }
            s.next("|");
        }
    }

    private static int[] factor(Signs s, Net n, int[] letters) {
        int place = s.place();
        char c = s.next("abc.(");
        int from = n.place();
        int to = n.place();
        if (c == '(') {
            int[] inner = rows(s, n, letters);
            s.next(")");
            n.arc(from, 3, inner[0]);
            n.arc(inner[1], 3, to);
        } else {
            if (++letters[0] > 10) {
                throw new Fault(place);
            }
            for (int l = 0; l < 3; l++) {
                if (c == '.' || c == 'a' + l) {
                    n.arc(from, l, to);
                }
            }
        }
        if (s.peek() != '*' && s.peek() != '?') {
            return new int[] {from, to};
        }
        boolean star = s.next("*?") == '*';
        int outerFrom = n.place();
        int outerTo = n.place();
        n.arc(outerFrom, 3, from);
        n.arc(to, 3, outerTo);
        n.arc(outerFrom, 3, outerTo);
        if (star) {
            n.arc(to, 3, from);
        }
        return new int[] {outerFrom, outerTo};
    }

    static final class Stmt {
        char kind;
        int v;
        int i;
        int p;
        int q;
        int alarm;
        final List<String> parts = new ArrayList<>();
        List<Stmt> first = List.of();
        List<Stmt> second = List.of();
    }

    static final class Prog {
        List<Stmt> all = new ArrayList<>();
        int statements;
        final List<Integer> alarms = new ArrayList<>();
    }

    static Prog readProgram(String text) {
        Signs s = new Signs(text);
        Prog p = new Prog();
        p.all = statements(s, p, 0, "$");
        s.next("$");
        return p;
    }

    private static List<Stmt> statements(Signs s, Prog p, int depth, String closing) {
        List<Stmt> out = new ArrayList<>();
        while (closing.indexOf(s.peek()) < 0) {
            int place = s.place();
            char c = s.next("uvxy!?#+*");
            Stmt st = new Stmt();
            p.statements++;
            out.add(st);
            st.kind = c;
            if ("uvxy".indexOf(c) >= 0) {
                st.v = "uvxy".indexOf(c);
                st.kind = s.next("=/");
                if (st.kind == '/') {
                    st.p = s.next("abc") - 'a';
                    st.q = "abc-".indexOf(s.next("abc-"));
                    s.next(";");
                } else {
                    parts(s, st);
                }
                continue;
            }
            if ("!?#".indexOf(c) >= 0) {
                st.v = "uvxy".indexOf(s.next("uvxy"));
                st.i = s.next("0123") - '0';
            }
            if (c == '!') {
                s.next(";");
                st.alarm = p.alarms.size();
                p.alarms.add(place);
                continue;
            }
            st.first = braces(s, p, depth);
            if (c == '?' || c == '+') {
                st.second = braces(s, p, depth);
            }
        }
        return out;
    }

    private static List<Stmt> braces(Signs s, Prog p, int depth) {
        s.next(depth == 5 ? "" : "{");
        List<Stmt> out = statements(s, p, depth + 1, "}");
        s.next("}");
        return out;
    }

    private static void parts(Signs s, Stmt st) {
        while (st.parts.isEmpty() || s.peek() != ';') {
            char c = s.next("uvxy0123'");
            if (c != '\'') {
                st.parts.add("" + c);
                continue;
            }
            StringBuilder b = new StringBuilder("'");
            while (s.peek() != '\'') {
                b.append(s.next("abc"));
            }
            s.next("'");
            st.parts.add(b.toString());
        }
        s.next(";");
    }

    // ---------------------------------------------------------------- the object

    record Setup(List<Lang> patterns, Prog program, int delay, int k) {
    }

    private final StringBuilder buffer = new StringBuilder();
    private Setup setup = new Setup(List.of(ALL, ALL, ALL, ALL), new Prog(), 1, 1);
    private final ArrayDeque<Setup> past = new ArrayDeque<>();
    private final int[] refusals = new int[3];
    private String[] ran = {"", "", "", ""};
    private int rang;

    // results of the analysis, which is made anew for each call but kept while the setup is the same
    private Setup analysed;
    private Lang[] behind;
    private String[] raised;
    private int rounds;
    private int most;

    private int refuse(int answer) {
        refusals[BAD - answer]++;
        return answer;
    }

    private void change(Setup to) {
        past.addLast(setup);
        if (past.size() > 6) {
            past.removeFirst();
        }
        setup = to;
    }

    int type(int c) {
        if (c < 0 || c > 127) {
            return refuse(BAD);
        }
        if (buffer.length() == 120) {
            return refuse(FULL);
        }
        return buffer.append((char) c).length();
    }

    int clear() {
        int had = buffer.length();
        buffer.setLength(0);
        return had;
    }

    int pattern(int i) {
        if (i < 0 || i > 3) {
            return refuse(BAD);
        }
        try {
            Lang l = readPattern(buffer.toString());
            List<Lang> p = new ArrayList<>(setup.patterns);
            p.set(i, l);
            change(new Setup(p, setup.program, setup.delay, setup.k));
            return l.size();
        } catch (Fault f) {
            return -10 - f.at;
        }
    }

    int program() {
        try {
            Prog p = readProgram(buffer.toString());
            change(new Setup(setup.patterns, p, setup.delay, setup.k));
            return p.statements;
        } catch (Fault f) {
            return -10 - f.at;
        }
    }

    int sets(int what, int v) {
        if (what == 0 && v >= 0 && v <= 5) {
            int was = setup.delay;
            change(new Setup(setup.patterns, setup.program, v, setup.k));
            return was;
        }
        if (what == 1 && v >= 0 && v <= 1) {
            int was = setup.k;
            change(new Setup(setup.patterns, setup.program, setup.delay, v));
            return was;
        }
        return refuse(BAD);
    }

    private Lang lang(int v) {
        analyse();
        return v >= 4 ? setup.patterns.get(v - 4) : behind == null ? null : behind[v];
    }

    private static boolean noLang(int v) {
        return v < 0 || v > 7;
    }

    private static int describe(Lang l, int what) {
        int least = NONE;
        int greatest = NONE;
        for (int n = 0; n < 25; n++) {
            if (l.some(0, n)) {
                least = least == NONE ? n : least;
                greatest = n;
            }
        }
        return switch (what) {
            case 0 -> l.size();
            case 1 -> least;
            case 2 -> greatest >= 10 ? ENDLESS : greatest;
            case 3 -> l.all() ? 1 : 0;
            default -> l.nothing() ? 1 : 0;
        };
    }

    int value(int v, int what) {
        if (noLang(v) || what < 0 || what > 4) {
            return refuse(BAD);
        }
        return lang(v) == null ? refuse(NO) : describe(lang(v), what);
    }

    long many(int v, int n) {
        if (noLang(v) || n < 0 || n > 20) {
            return refuse(BAD);
        }
        return lang(v) == null ? refuse(NO) : lang(v).many(0, n);
    }

    int text(int v, int k, int i) {
        if (noLang(v) || k < 0 || k > 20 || i < 0) {
            return refuse(BAD);
        }
        if (lang(v) == null) {
            return refuse(NO);
        }
        List<String> t = lang(v).texts(k + 1);
        return t.size() <= k ? FEWER : letter(t.get(k), i);
    }

    private static int letter(String t, int i) {
        return i < t.length() ? t.charAt(i) : NONE;
    }

    int holds(int v) {
        if (noLang(v)) {
            return refuse(BAD);
        }
        if (lang(v) == null) {
            return refuse(NO);
        }
        for (int i = 0; i < buffer.length(); i++) {
            if ("abc ".indexOf(buffer.charAt(i)) < 0) {
                return -10 - i;
            }
        }
        return lang(v).has(buffer.toString().replace(" ", "")) ? 1 : 0;
    }

    int within(int v, int w) {
        if (noLang(v) || noLang(w)) {
            return refuse(BAD);
        }
        if (lang(v) == null || lang(w) == null) {
            return refuse(NO);
        }
        return product(lang(v), lang(w), (x, y) -> x && !y).nothing() ? 1 : 0;
    }

    int alarms() {
        return setup.program.alarms.size();
    }

    int alarm(int j, int what) {
        if (j < 0 || j >= alarms() || what < 0 || what > 2) {
            return refuse(BAD);
        }
        analyse();
        return switch (what) {
            case 0 -> raised[j] == null ? 0 : 1;
            case 1 -> setup.program.alarms.get(j);
            default -> raised[j] == null ? NONE : raised[j].length();
        };
    }

    int raised(int j, int i) {
        if (j < 0 || j >= alarms() || i < 0) {
            return refuse(BAD);
        }
        analyse();
        return raised[j] == null ? NONE : letter(raised[j], i);
    }

    int count(int what) {
        analyse();
        return switch (what) {
            case 0 -> setup.program.statements;
            case 1 -> rounds;
            case 2 -> most;
            case 3 -> behind == null ? 1 : 0;
            default -> refuse(BAD);
        };
    }

    int ran(int v, int i) {
        return v < 0 || v > 3 || i < 0 ? refuse(BAD) : letter(ran[v], i);
    }

    int caught() {
        analyse();
        int mask = 0;
        for (int v = 0; v < 4 && behind != null; v++) {
            mask |= behind[v].has(ran[v]) ? 1 << v : 0;
        }
        return mask;
    }

    int rang() {
        return rang;
    }

    int back() {
        if (past.isEmpty()) {
            return refuse(NO);
        }
        setup = past.removeLast();
        return past.size();
    }

    int told(int what) {
        return switch (what) {
            case 0, 1, 2 -> refusals[what];
            case 3 -> setup.delay;
            case 4 -> setup.k;
            case 5 -> buffer.length();
            case 6 -> past.size();
            default -> refuse(BAD);
        };
    }

    long digest() {
        List<Long> all = new ArrayList<>();
        for (int i = 0; i <= 6; i++) {
            all.add((long) told(i));
        }
        for (int i = 0; i <= 3; i++) {
            all.add((long) count(i));
        }
        for (int v = 0; v < 8; v++) {
            for (int i = 0; i <= 4 && lang(v) != null; i++) {
                all.add((long) value(v, i));
            }
        }
        for (int j = 0; j < alarms(); j++) {
            for (int i = 0; i <= 2; i++) {
                all.add((long) alarm(j, i));
            }
        }
        all.add((long) caught());
        all.add((long) rang());
        long h = 1815;
        for (long v : all) {
            h = 31 * h + v;
        }
        return h;
    }

    // ---------------------------------------------------------------- the analysis

    /** A state is an array of four languages, which is never changed; null is the impossible one. */
    private void analyse() {
        if (analysed == setup) {
            return;
        }
        analysed = setup;
        raised = new String[alarms()];
        rounds = 0;
        most = 0;
        Lang empty = single("");
        behind = apply(setup.program.all, new Lang[] {empty, empty, empty, empty});
    }

    private static Lang[] with(Lang[] s, int v, Lang l) {
        if (s == null || l.nothing()) {
            return null;
        }
        Lang[] out = s.clone();
        out[v] = l;
        return out;
    }

    private static Lang[] join(Lang[] s, Lang[] t) {
        if (s == null || t == null) {
            return s == null ? t : s;
        }
        Lang[] out = new Lang[4];
        for (int v = 0; v < 4; v++) {
            out[v] = join(s[v], t[v]);
        }
        return out;
    }

    private Lang[] apply(List<Stmt> list, Lang[] from) {
        Lang[] s = from;
        for (Stmt st : list) {
            if (s != null) {
                s = apply(st, s);
            }
        }
        return s;
    }

    private Lang[] apply(Stmt st, Lang[] s) {
        Lang test = setup.patterns.get(st.i);
        switch (st.kind) {
            case '=':
                Lang l = part(st.parts.get(0), s);
                for (int i = 1; i < st.parts.size(); i++) {
                    l = chain(l, part(st.parts.get(i), s));
                }
                return with(s, st.v, l);
            case '/':
                return with(s, st.v, replace(s[st.v], st.p, st.q));
            case '!':
                String t = common(s[st.v], test);
                if (t != null && (raised[st.alarm] == null || smaller(t, raised[st.alarm]))) {
                    raised[st.alarm] = t;
                }
                return s;
            case '?':
                return join(apply(st.first, with(s, st.v, both(s[st.v], test))),
                        apply(st.second, with(s, st.v, less(s[st.v], test))));
            case '+':
                return join(apply(st.first, s), apply(st.second, s));
            case '*':
                return loop(st, s, ALL);
            default:
                Lang[] head = loop(st, s, test);
                return with(head, st.v, less(head[st.v], test));
        }
    }

    private Lang part(String p, Lang[] s) {
        return switch (p.charAt(0)) {
            case '\'' -> single(p.substring(1));
            case '0', '1', '2', '3' -> setup.patterns.get(p.charAt(0) - '0');
            default -> s["uvxy".indexOf(p.charAt(0))];
        };
    }

    /** For *, test is ALL and st.v 0, so that nothing is changed by it. */
    private Lang[] loop(Stmt st, Lang[] before, Lang test) {
        Lang[] head = before;
        for (int done = 0; true; done++) {
            rounds++;
            most = Math.max(most, done + 1);
            Lang[] joined = join(head, apply(st.first, with(head, st.v, both(head[st.v], test))));
            Lang[] next = new Lang[4];
            boolean different = false;
            for (int v = 0; v < 4; v++) {
                next[v] = joined[v];
                if (!joined[v].same(head[v])) {
                    different = true;
                    if (done >= 20) {
                        next[v] = ALL;
                    } else if (done >= setup.delay) {
                        next[v] = widen(joined[v], setup.k);
                    }
                }
            }
            head = next;
            if (!different) {
                return head;
            }
        }
    }

    // ---------------------------------------------------------------- runs

    private static final class Lost extends RuntimeException {
        Lost() {
            super("lost", null, false, false);
        }
    }

    private long x;
    private int steps;
    private int rings;

    int runs(int seed) {
        if (seed < 0 || seed > 999999) {
            return refuse(BAD);
        }
        x = seed;
        steps = 0;
        rings = 0;
        String[] texts = {"", "", "", ""};
        try {
            run(setup.program.all, texts);
        } catch (Lost lost) {
            return LOST;
        }
        ran = texts;
        rang = rings;
        return steps;
    }

    private int draw(int n) {
        x = (x * 1103515245L + 12345L) % 2147483648L;
        return (int) (x / 65536 % n);
    }

    private void step() {
        if (++steps > 100) {
            throw new Lost();
        }
    }

    private void run(List<Stmt> list, String[] t) {
        for (Stmt st : list) {
            Lang test = setup.patterns.get(st.i);
            switch (st.kind) {
                case '=':
                    step();
                    StringBuilder b = new StringBuilder();
                    for (String p : st.parts) {
                        b.append(runPart(p, t));
                    }
                    if (b.length() > 40) {
                        throw new Lost();
                    }
                    t[st.v] = b.toString();
                    break;
                case '/':
                    step();
                    t[st.v] = t[st.v].replace("" + (char) ('a' + st.p), st.q == 3 ? "" : "" + (char) ('a' + st.q));
                    break;
                case '!':
                    step();
                    rings += test.has(t[st.v]) ? 1 : 0;
                    break;
                case '?':
                    step();
                    run(test.has(t[st.v]) ? st.first : st.second, t);
                    break;
                case '+':
                    step();
                    run(draw(2) == 0 ? st.first : st.second, t);
                    break;
                case '#':
                    step();
                    while (test.has(t[st.v])) {
                        run(st.first, t);
                        step();
                    }
                    break;
                default:
                    step();
                    while (draw(3) != 0) {
                        run(st.first, t);
                        step();
                    }
                    break;
            }
        }
    }

    private String runPart(String p, String[] t) {
        char c = p.charAt(0);
        if (c == '\'') {
            return p.substring(1);
        }
        if (c >= '0' && c <= '3') {
            List<String> eight = setup.patterns.get(c - '0').texts(8);
            return eight.get(draw(eight.size()));
        }
        return t["uvxy".indexOf(c)];
    }
}
