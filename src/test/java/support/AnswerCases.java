import java.lang.reflect.Constructor;
import java.lang.reflect.Field;
import java.lang.reflect.Method;
import java.lang.reflect.Modifier;
import java.util.Arrays;
import java.util.Set;
import java.util.TreeSet;

/** What the object is, its face, and what refusals are. */
final class AnswerCases extends Cases {
    private static final String FACE = """
            public static final int NONE = -1, BAD = -2, NO = -3, FULL = -4, FEWER = -5, LOST = -6, ENDLESS = 1000; \
            public TextValues(); public int type(int c); public int clear(); public int pattern(int i); \
            public int program(); public int sets(int what, int v); public int value(int v, int what); \
            public long many(int v, int n); public int text(int v, int k, int i); public int holds(int v); \
            public int within(int v, int w); public int alarms(); public int alarm(int j, int what); \
            public int raised(int j, int i); public int count(int what); public int runs(int seed); \
            public int ran(int v, int i); public int caught(); public int rang(); public int back(); \
            public int told(int what); public long digest();""";

    private AnswerCases() {
    }

    static void all(Sentences s) {
        s.in("What it is");
        s.plain("String analysis by abstract interpretation: which texts the variables of a small program can hold, "
                + "computed with regular languages whose minimal automata have at most ten states. Concatenations, "
                + "replacements, tests against patterns, choices and loops are interpreted; loops are iterated until "
                + "nothing changes, with a widening that identifies similar states after some rounds. The class "
                + "reports the languages behind the program and the alarms that may be raised, with the smallest text "
                + "that raises each; it enumerates and counts the texts of a language, and runs the program once with "
                + "pseudo-random choices, so that the result can be compared with the analysis.");
        s.of("An object is used for at most 512 calls after it has been made", d -> fiveHundredAndTwelve(d));
        s.plain("; what later calls answer is free.");
        s.in("The public face");
        s.plain("```java public final class TextValues {");
        s.of(FACE, d -> face());
        s.plain("} ```");
        s.in("Description");
        s.plain("RETURN VALUES.");
        s.of("BAD (-2): an argument is out of range.", d -> bad());
        s.of("NO (-3): the call is not possible, as the method says.", d -> no(d));
        s.of("FULL (-4): a limit is reached.", d -> full(d));
        s.of("If several of them apply to a call, the first one in this order is returned.", d -> order(d));
        s.of("These three are refusals: a call that returns one of them changes nothing,", d -> unchanged());
        s.of("except that it is counted (see told()).", d -> counted(d));
        s.of("A text with a fault makes a method return -10 minus the fault position;", d -> faults(d));
        s.of("then nothing changes,", d -> unchangedByFaults());
        s.of("and nothing is counted.", d -> uncountedFaults(d));
        s.of("NONE (-1) means that there is no such value;", d -> none());
        s.of("it is no refusal,", d -> uncountedNone(d));
        s.of("and is returned only if there is none.", d -> onlyNone());
        s.of("FEWER (-5) and LOST (-6) are explained at the methods.", d -> fewerAndLost());
    }

    private static void fiveHundredAndTwelve(Desk d) {
        for (int i = 1; i <= 511; i++) {
            d.t.told(7);
        }
        due("the 512th call", d.t.told(0), 511);
        Desk e = new Desk();
        e.pattern(0, "a*b");
        e.program("u=0;*{u=u'c';}!u0;");
        while (e.t.calls() < 509) {
            e.t.type('a');
            e.t.clear();
            e.t.runs(e.t.calls());
            e.t.sets(0, e.t.calls() % 6);
        }
        while (e.t.calls() < 511) {
            e.t.sets(0, 5);
        }
        due("the 512th call", e.t.text(0, 4, 2), 'c');
    }

    private static void face() {
        Class<?> c = TextValues.class;
        due("modifiers", c.getModifiers(), Modifier.PUBLIC | Modifier.FINAL);
        Set<String> members = new TreeSet<>();
        for (Method m : c.getDeclaredMethods()) {
            if (!Modifier.isPrivate(m.getModifiers()) && !m.isSynthetic()) {
                members.add(Modifier.toString(m.getModifiers()) + " " + m.getReturnType() + " " + m.getName()
                        + Arrays.toString(m.getParameterTypes()));
            }
        }
        Set<String> want = new TreeSet<>();
        for (String line : FACE.split("; ?")) {
            if (line.contains("(") && !line.startsWith("public TextValues")) {
                String types = line.replaceAll(".*\\(", "[").replaceAll(" \\w+(?=[,)])", "").replace(')', ']');
                want.add(line.replaceAll("\\(.*", "") + types);
            }
        }
        due("methods", members.toString(), want.toString());
        due("21 of them", want.size(), 21);
        StringBuilder constructors = new StringBuilder();
        for (Constructor<?> k : c.getDeclaredConstructors()) {
            constructors.append(k);
        }
        due("constructors", constructors.toString(), "public TextValues()");
        constants(c);
    }

    private static void constants(Class<?> c) {
        Set<String> found = new TreeSet<>();
        for (Field f : c.getDeclaredFields()) {
            if (!Modifier.isPrivate(f.getModifiers()) && !f.isSynthetic()) {
                found.add(Modifier.toString(f.getModifiers()) + " " + f.getType() + " " + f.getName());
            }
        }
        Set<String> want = new TreeSet<>();
        for (String name : "NONE BAD NO FULL FEWER LOST ENDLESS".split(" ")) {
            want.add("public static final int " + name);
        }
        due("fields", found.toString(), want.toString());
        int[] values = {TextValues.NONE, TextValues.BAD, TextValues.NO, TextValues.FULL, TextValues.FEWER,
            TextValues.LOST, TextValues.ENDLESS};
        due("their values", Arrays.toString(values), "[-1, -2, -3, -4, -5, -6, 1000]");
    }

    private static void bad() {
        for (int far : new int[] {0, 1, 1000, 1 << 28, GREATEST - 200}) {
            int below = -1 - far;
            Desk d = withProgram("!u0;", "a");
            long[] answers = {d.t.type(below), d.t.type(128 + far), d.t.pattern(below), d.t.pattern(4 + far),
                d.t.sets(below, 0), d.t.sets(2 + far, 0), d.t.sets(0, below), d.t.sets(0, 6 + far),
                d.t.sets(1, below), d.t.sets(1, 2 + far), d.t.value(below, 0), d.t.value(8 + far, 0),
                d.t.value(4, below), d.t.value(4, 5 + far), d.t.many(below, 0), d.t.many(8 + far, 0),
                d.t.many(4, below), d.t.many(4, 21 + far), d.t.text(below, 0, 0), d.t.text(8 + far, 0, 0),
                d.t.text(4, below, 0), d.t.text(4, 21 + far, 0), d.t.text(4, 0, below), d.t.holds(below),
                d.t.holds(8 + far), d.t.within(below, 0), d.t.within(8 + far, 0), d.t.within(0, below),
                d.t.within(0, 8 + far), d.t.alarm(below, 0), d.t.alarm(1 + far, 0), d.t.alarm(0, below),
                d.t.alarm(0, 3 + far), d.t.raised(below, 0), d.t.raised(1 + far, 0), d.t.raised(0, below),
                d.t.count(below), d.t.count(4 + far), d.t.runs(below), d.t.ran(below, 0), d.t.ran(4 + far, 0),
                d.t.ran(0, below), d.t.told(below), d.t.told(7 + far)};
            for (int i = 0; i < answers.length; i++) {
                due("wrong argument " + i + " by " + far, answers[i], BAD);
            }
            due("how many were BAD", d.t.told(0), answers.length);
        }
        Desk d = new Desk();
        due("a seed", d.t.runs(1000000), BAD);
        due("a seed", d.t.runs(GREATEST), BAD);
        due("a seed", d.t.runs(LEAST), BAD);
        due("both are wrong", d.t.value(8, 5), BAD);
        due("one BAD for two wrong arguments", d.t.told(0), 4);
    }

    private static void no(Desk d) {
        due("nothing to go back to", d.t.back(), NO);
        d.program(IMPOSSIBLE);
        for (int v = 0; v < 4; v++) {
            due("value", d.t.value(v, 0), NO);
            due("many", d.t.many(v, 0), NO);
            due("text", d.t.text(v, 0, 0), NO);
            due("holds", d.t.holds(v), NO);
            due("within", d.t.within(v, 7), NO);
            due("within", d.t.within(7, v), NO);
        }
        due("how many were NO", d.t.told(1), 25);
    }

    private static void full(Desk d) {
        for (int i = 1; i <= 120; i++) {
            due("byte " + i, d.t.type('b'), i);
        }
        due("byte 121", d.t.type('b'), FULL);
        due("byte 121", d.t.type(0), FULL);
        due("how many were FULL", d.t.told(2), 2);
    }

    private static void order(Desk d) {
        d.program(IMPOSSIBLE);
        long[] both = {d.t.value(0, 5), d.t.value(3, -1), d.t.many(0, 21), d.t.many(3, -1), d.t.text(0, 21, 0),
            d.t.text(1, -1, 0), d.t.text(2, 0, -1), d.t.within(0, 8), d.t.within(8, 0), d.t.within(3, -1)};
        for (int i = 0; i < both.length; i++) {
            due("BAD comes before NO, " + i, both[i], BAD);
        }
        d.write("a".repeat(120));
        due("BAD comes before FULL", d.t.type(128), BAD);
        due("BAD comes before FULL", d.t.type(-1), BAD);
        due("one is counted", refusals(d), "12 0 0");
    }

    private static Desk busy() {
        Desk d = withProgram("u=0;*{u=u'c';}!u0;!u1;", "a*b", "c*");
        due("a run", d.t.runs(4) > 0 ? 1 : 0, 1);
        d.t.sets(0, 3);
        d.t.sets(1, 0);
        return d;
    }

    private static void unchanged() {
        Desk d = busy();
        String before = seen(d);
        due("BAD", d.t.type(128) + d.t.pattern(4) + d.t.sets(0, 6) + d.t.sets(1, 2) + d.t.sets(2, 0), 5 * BAD);
        due("BAD", d.t.value(8, 0) + d.t.many(4, 21) + d.t.text(4, 0, -1) + d.t.holds(8) + d.t.within(0, 8), 5 * BAD);
        due("BAD", d.t.alarm(2, 0) + d.t.raised(2, 0) + d.t.count(4) + d.t.runs(-1) + d.t.ran(4, 0), 5 * BAD);
        due("BAD", d.t.told(7), BAD);
        due("all is as it was", seen(d), before);
        d = new Desk();
        d.write(IMPOSSIBLE);
        before = seen(d);
        due("NO", d.t.back(), NO);
        due("all is as it was", seen(d), before);
        d.t.program();
        before = seen(d);
        due("NO", d.t.value(0, 0) + d.t.many(0, 0) + d.t.text(0, 0, 0) + d.t.holds(0) + d.t.within(0, 0), 5 * NO);
        due("all is as it was", seen(d), before);
        d = new Desk();
        d.write(" ".repeat(119) + "a");
        before = seen(d);
        due("FULL", d.t.type('b'), FULL);
        due("all is as it was", seen(d), before);
        due("the bytes are as they were", d.t.pattern(0), 3);
        due("the bytes are as they were", d.t.text(4, 0, 0), 'a');
    }

    private static void counted(Desk d) {
        due("none at first", refusals(d), "0 0 0");
        d.t.sets(0, 6);
        due("a BAD one", refusals(d), "1 0 0");
        d.t.many(9, 9);
        due("one that answers a long", refusals(d), "2 0 0");
        d.t.back();
        due("a NO one", refusals(d), "2 1 0");
        d.program(IMPOSSIBLE);
        d.t.many(0, 0);
        d.t.within(0, 0);
        due("one each call", refusals(d), "2 3 0");
        d.write("a".repeat(120));
        d.t.type('a');
        due("a FULL one", refusals(d), "2 3 1");
        d.t.told(-1);
        due("told() itself", refusals(d), "3 3 1");
        d.t.value(4, 0);
        d.t.digest();
        d.t.caught();
        d.t.runs(0);
        due("no others", refusals(d), "3 3 1");
    }

    private static void faults(Desk d) {
        due("a pattern, at 0", d.pattern(0, "*"), -10);
        due("a program, at 0", d.program(";"), -10);
        due("a text, at 0", d.holds(0, "d"), -10);
        due("a pattern, at 1", d.pattern(0, "a)"), -11);
        due("a program, at 1", d.program("ua"), -11);
        due("a text, at 1", d.holds(4, "ad"), -11);
        String spaces = " ".repeat(119);
        Desk e = new Desk();
        due("a pattern, at 119", e.pattern(0, spaces + "*"), -129);
        due("a pattern, at 120", e.pattern(0, "(" + spaces), -130);
        due("a program, at 119", e.program(spaces + "}"), -129);
        e = new Desk();
        due("a program, at 120", e.program("u" + spaces), -130);
        due("a text, at 119", e.holds(4, "a".repeat(119) + "d"), -129);
    }

    private static void unchangedByFaults() {
        Desk d = busy();
        d.write("u=?");
        String before = seen(d);
        due("a pattern", d.t.pattern(0), -10);
        due("a program", d.t.program(), -12);
        due("a text", d.t.holds(4), -10);
        due("all is as it was", seen(d), before);
        d.t.clear();
        due("back to what was before sets()", d.t.back(), 4);
        due("K is what it was", d.t.told(4), 1);
    }

    private static void uncountedFaults(Desk d) {
        d.pattern(0, "(");
        d.program("+");
        d.holds(0, "x");
        due("refusals", refusals(d), "0 0 0");
    }

    private static void none() {
        Desk d = withProgram("!u0;", "b");
        due("no letter of the empty text", d.t.text(0, 0, 0), -1);
        due("no alarm text", d.t.alarm(0, 2), -1);
        due("no alarm letter", d.t.raised(0, 0), -1);
        due("no letter of a run", d.t.ran(0, 0), -1);
    }

    private static void uncountedNone(Desk d) {
        none();
        d.t.text(0, 0, 0);
        d.t.ran(0, 0);
        d.program("u='a';!v0;!u0;");
        d.t.raised(0, 0);
        d.t.raised(1, 1);
        due("refusals", refusals(d), "0 0 0");
    }

    private static void onlyNone() {
        Desk d = withProgram("u='ab';!u0;!v0;", "a*b*");
        due("a run", d.t.runs(0), 3);
        due("the last letter", d.t.text(0, 0, 1), 'b');
        due("the last letter", d.t.raised(0, 1), 'b');
        due("the last letter", d.t.ran(0, 1), 'b');
        due("the empty text has a length", d.t.alarm(1, 2), 0);
        due("the smallest length", d.t.value(1, 1), 0);
        due("the greatest length", d.t.value(1, 2), 0);
    }

    private static void fewerAndLost() {
        Desk d = withProgram("v='" + "a".repeat(41) + "';");
        due("FEWER is what text() answers", d.t.text(3, 1, 0), -5);
        due("LOST is what runs() answers", d.t.runs(0), -6);
        due("they are no refusals", refusals(d), "0 0 0");
    }
}
