/** What all tests of sentences use. */
abstract class Cases {
    static final int NONE = -1, BAD = -2, NO = -3, FULL = -4, FEWER = -5, LOST = -6, ENDLESS = 1000;
    static final int LEAST = Integer.MIN_VALUE, GREATEST = Integer.MAX_VALUE;
    /** Behind it the state is impossible, while pattern 0 is ALL. */
    static final String IMPOSSIBLE = "#u0{}";

    static void due(String what, long got, long want) {
        Desk.due(what, got, want);
    }

    static void due(String what, String got, String want) {
        Desk.due(what, got, want);
    }

    /** What the buffer answers as a program on an object of its own. */
    static int asProgram(String text) {
        return new Desk().program(text);
    }

    /** What the buffer answers as pattern 0 on an object of its own. */
    static int asPattern(String text) {
        return new Desk().pattern(0, text);
    }

    /** A new object with pattern 0. */
    static Desk withPattern(String text) {
        Desk d = new Desk();
        d.pattern(0, text);
        return d;
    }

    /** A new object with a program; the digits in it are patterns from 0. */
    static Desk withProgram(String program, String... patterns) {
        Desk d = new Desk();
        for (int i = 0; i < patterns.length; i++) {
            due(patterns[i] + " is read", d.pattern(i, patterns[i]) >= 0 ? 1 : 0, 1);
        }
        due(program + " is read", d.program(program) >= 0 ? 1 : 0, 1);
        return d;
    }

    /** The numbers that a run draws, written anew with numbers that cannot overflow. */
    static int[] drawn(long seed, int... below) {
        java.math.BigInteger x = java.math.BigInteger.valueOf(seed);
        int[] out = new int[below.length];
        for (int i = 0; i < below.length; i++) {
            x = x.multiply(java.math.BigInteger.valueOf(1103515245)).add(java.math.BigInteger.valueOf(12345))
                    .mod(java.math.BigInteger.valueOf(2147483648L));
            out[i] = x.divide(java.math.BigInteger.valueOf(65536)).mod(java.math.BigInteger.valueOf(below[i]))
                    .intValue();
        }
        return out;
    }

    /** All that can be seen but the counts of refusals. */
    static String seen(Desk d) {
        StringBuilder b = new StringBuilder();
        for (int what = 3; what <= 6; what++) {
            b.append(d.t.told(what)).append(' ');
        }
        for (int what = 0; what <= 3; what++) {
            b.append(d.t.count(what)).append(' ');
        }
        for (int v = d.t.count(3) == 1 ? 4 : 0; v < 8; v++) {
            for (int what = 0; what <= 2; what++) {
                b.append(d.t.value(v, what)).append(' ');
            }
            b.append(d.t.many(v, 3)).append(' ');
        }
        for (int j = 0; j < d.t.alarms(); j++) {
            b.append(d.t.alarm(j, 1)).append(d.raised(j)).append(' ');
        }
        for (int v = 0; v < 4; v++) {
            b.append(d.ran(v)).append(' ');
        }
        return b.append(d.t.caught()).append(' ').append(d.t.rang()).toString();
    }

    static String refusals(Desk d) {
        return d.t.told(0) + " " + d.t.told(1) + " " + d.t.told(2);
    }
}
