/** Makes each call on TextValues and on the model, and compares the answers. */
final class Pair {
    private final TextValues real = new TextValues();
    private final Model model = new Model();
    private final StringBuilder story = new StringBuilder();
    int calls;
    int wrong;

    private long due(String call, long got, long want) {
        calls++;
        story.append(call).append(" = ").append(got).append('\n');
        // Behind the last call that the document speaks of, each answer is right.
        if (got != want && calls <= Counted.MOST) {
            wrong++;
            if (wrong == 1) {
                System.out.println(story + "due is " + want);
            }
        }
        return want;
    }

    private static String name(String method, int... arguments) {
        StringBuilder b = new StringBuilder(method).append('(');
        for (int i = 0; i < arguments.length; i++) {
            b.append(i == 0 ? "" : ", ").append(arguments[i]);
        }
        return b.append(')').toString();
    }

    void write(String text) {
        clear();
        story.append("// ").append(text).append('\n');
        for (char c : text.toCharArray()) {
            type(c);
        }
    }

    long type(int c) {
        return due(name("type", c), real.type(c), model.type(c));
    }

    long clear() {
        return due("clear()", real.clear(), model.clear());
    }

    long pattern(int i) {
        return due(name("pattern", i), real.pattern(i), model.pattern(i));
    }

    long program() {
        return due("program()", real.program(), model.program());
    }

    long sets(int what, int v) {
        return due(name("sets", what, v), real.sets(what, v), model.sets(what, v));
    }

    long value(int v, int what) {
        return due(name("value", v, what), real.value(v, what), model.value(v, what));
    }

    long many(int v, int n) {
        return due(name("many", v, n), real.many(v, n), model.many(v, n));
    }

    long text(int v, int k, int i) {
        return due(name("text", v, k, i), real.text(v, k, i), model.text(v, k, i));
    }

    long holds(int v) {
        return due(name("holds", v), real.holds(v), model.holds(v));
    }

    long within(int v, int w) {
        return due(name("within", v, w), real.within(v, w), model.within(v, w));
    }

    long alarms() {
        return due("alarms()", real.alarms(), model.alarms());
    }

    long alarm(int j, int what) {
        return due(name("alarm", j, what), real.alarm(j, what), model.alarm(j, what));
    }

    long raised(int j, int i) {
        return due(name("raised", j, i), real.raised(j, i), model.raised(j, i));
    }

    long count(int what) {
        return due(name("count", what), real.count(what), model.count(what));
    }

    long runs(int seed) {
        return due(name("runs", seed), real.runs(seed), model.runs(seed));
    }

    long ran(int v, int i) {
        return due(name("ran", v, i), real.ran(v, i), model.ran(v, i));
    }

    long caught() {
        return due("caught()", real.caught(), model.caught());
    }

    long rang() {
        return due("rang()", real.rang(), model.rang());
    }

    long back() {
        return due("back()", real.back(), model.back());
    }

    long told(int what) {
        return due(name("told", what), real.told(what), model.told(what));
    }

    long digest() {
        return due("digest()", real.digest(), model.digest());
    }
}
