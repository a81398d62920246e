/** An object with short ways to write to it and to read texts from it, and a count of the wrong answers. */
final class Desk {
    static int wrong;
    static int answers;
    static String where = "";

    final Counted t = new Counted();

    static void due(String what, long got, long want) {
        answers++;
        if (got != want) {
            wrong++;
            System.out.println(where + ": " + what + " is " + got + ", due is " + want);
        }
    }

    static void due(String what, String got, String want) {
        answers++;
        if (!got.equals(want)) {
            wrong++;
            System.out.println(where + ": " + what + " is \"" + got + "\", due is \"" + want + "\"");
        }
    }

    /** Puts a text into the buffer in place of what was there. */
    Desk write(String text) {
        t.clear();
        for (char c : text.toCharArray()) {
            t.type(c);
        }
        return this;
    }

    int pattern(int i, String text) {
        write(text);
        return t.pattern(i);
    }

    int program(String text) {
        write(text);
        return t.program();
    }

    int holds(int v, String text) {
        write(text);
        return t.holds(v);
    }

    /** Text k of a language; FEWER and refusals come as their numbers. */
    String text(int v, int k) {
        StringBuilder b = new StringBuilder();
        for (int i = 0; i < 300; i++) {
            int c = t.text(v, k, i);
            if (c == TextValues.NONE) {
                return b.toString();
            }
            if (c < 0) {
                return Integer.toString(c);
            }
            b.append((char) c);
        }
        return b.toString();
    }

    /** The first texts of a language, with a point behind each. */
    String texts(int v, int most) {
        StringBuilder b = new StringBuilder();
        for (int k = 0; k < most && t.text(v, k, 0) != TextValues.FEWER; k++) {
            b.append(text(v, k)).append('.');
        }
        return b.toString();
    }

    String raised(int j) {
        StringBuilder b = new StringBuilder();
        for (int i = 0; i < 300 && t.raised(j, i) >= 0; i++) {
            b.append((char) t.raised(j, i));
        }
        return b.toString();
    }

    String ran(int v) {
        StringBuilder b = new StringBuilder();
        for (int i = 0; i < 300 && t.ran(v, i) >= 0; i++) {
            b.append((char) t.ran(v, i));
        }
        return b.toString();
    }
}
