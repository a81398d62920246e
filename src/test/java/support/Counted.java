/** An object of TextValues that counts its calls: the document promises nothing behind the 512th one. */
final class Counted {
    static final int MOST = 512;
    private final TextValues t = new TextValues();
    private int calls;

    int calls() {
        return calls;
    }

    private TextValues call() {
        calls++;
        if (calls == MOST + 1) {
            Desk.due("the number of calls on one object", calls, MOST);
        }
        return t;
    }

    int type(int c) {
        return call().type(c);
    }

    int clear() {
        return call().clear();
    }

    int pattern(int i) {
        return call().pattern(i);
    }

    int program() {
        return call().program();
    }

    int sets(int what, int v) {
        return call().sets(what, v);
    }

    int value(int v, int what) {
        return call().value(v, what);
    }

    long many(int v, int n) {
        return call().many(v, n);
    }

    int text(int v, int k, int i) {
        return call().text(v, k, i);
    }

    int holds(int v) {
        return call().holds(v);
    }

    int within(int v, int w) {
        return call().within(v, w);
    }

    int alarms() {
        return call().alarms();
    }

    int alarm(int j, int what) {
        return call().alarm(j, what);
    }

    int raised(int j, int i) {
        return call().raised(j, i);
    }

    int count(int what) {
        return call().count(what);
    }

    int runs(int seed) {
        return call().runs(seed);
    }

    int ran(int v, int i) {
        return call().ran(v, i);
    }

    int caught() {
        return call().caught();
    }

    int rang() {
        return call().rang();
    }

    int back() {
        return call().back();
    }

    int told(int what) {
        return call().told(what);
    }

    long digest() {
        return call().digest();
    }
}
