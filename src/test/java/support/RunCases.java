/** Section 4: runs. */
final class RunCases extends Cases {
    /** Just nine repetitions, ten tests, and ten steps in each repetition: a hundred steps, with this pattern 0. */
    static final String HUNDRED = "#u0{u=u'a';" + "v=v;".repeat(9) + "}";
    static final String NINE = "a?a?a?a?a?a?a?a?";
    private static final int[] SEEDS = {0, 1, 2, 3, 5, 8, 60, 65535, 65536, 123456, 777777, 999998, 999999};

    private RunCases() {
    }

    static void all(Sentences s) {
        s.in("4. Runs");
        s.of("A run executes the program once.", d -> once());
        s.of("Its random number X is at first a given seed.", d -> seed());
        s.of("To draw a number below n means: X becomes (X * 1103515245 + 12345) modulo 2147483648,", d -> modulo());
        s.of("and the number is (X / 65536, rounded down) modulo n.", d -> number());
        s.of("For a part that is a digit i, let m be 8,", d -> eight());
        s.of("or the number of texts of pattern i if it has fewer;", d -> fewer());
        s.of("a number below m is drawn,", d -> oneDraw());
        s.of("and the text is the one with this number of the m smallest texts of the pattern, from 0.",
                d -> smallest());
        s.of("At +, a number below 2 is drawn; 0 means the first S.", d -> plus());
        s.of("At *, a number below 3 is drawn before each repetition; 0 ends the loop.", d -> star());
        s.of("Each statement that is reached counts as one step;", d -> steps());
        s.of("but # and * count one step each time when they test or draw,", d -> loopSteps());
        s.of("and not in addition when they are reached.", d -> notInAddition());
        s.of("The run is lost if a 101st step would be done,", d -> hundredAndOne());
        s.of("or if a statement V = C makes a text of more than 40 letters.", d -> fortyOne());
    }

    private static void once() {
        Desk d = withProgram("u=u'a';");
        due("steps", d.t.runs(0), 1);
        due("text", d.ran(0), "a");
        due("steps of another run", d.t.runs(0), 1);
        due("it begins anew", d.ran(0), "a");
        due("the same seed, the same run", same("u=0;*{u=u0;}+{v='a';}{v='b';}"), 1);
    }

    private static int same(String program) {
        Desk d = withProgram(program, "a|b|c");
        int good = 1;
        for (int seed : SEEDS) {
            int steps = d.t.runs(seed);
            String texts = d.ran(0) + "." + d.ran(1);
            d.t.runs(seed + 1 - seed % 2 * 2);
            good &= d.t.runs(seed) == steps && (d.ran(0) + "." + d.ran(1)).equals(texts) ? 1 : 0;
        }
        return good;
    }

    private static String cube(int number) {
        return "" + "ab".charAt(number / 4) + "ab".charAt(number / 2 % 2) + "ab".charAt(number % 2);
    }

    private static void seed() {
        Desk d = withProgram("u=0;", "(a|b)(a|b)(a|b)");
        for (int seed : SEEDS) {
            due("steps", d.t.runs(seed), 1);
            due("seed " + seed, d.ran(0), cube(drawn(seed, 8)[0]));
        }
        // (0 * 1103515245 + 12345) / 65536 is 0; (2 * 1103515245 + 12345) mod 2147483648 is 59559187, which is 908.
        d.t.runs(0);
        due("seed 0", d.ran(0), cube(0));
        d.t.runs(2);
        due("seed 2", d.ran(0), cube(908 % 8));
    }

    private static void modulo() {
        for (int seed : SEEDS) {
            Desk d = withProgram("u=0000000000000;", "(a|b)(a|b)(a|b)");
            int[] n = drawn(seed, 8, 8, 8, 8, 8, 8, 8, 8, 8, 8, 8, 8, 8);
            StringBuilder text = new StringBuilder();
            for (int k : n) {
                text.append(cube(k));
            }
            d.t.runs(seed);
            due("seed " + seed + ", thirteen draws", d.ran(0), text.toString());
        }
        // Numbers below 5 tell also what the bits above would change.
        String[] five = {"aa", "ab", "ac", "ba", "bb"};
        for (int seed : SEEDS) {
            Desk d = withProgram("u=00000000000000000000;", "a(a|b|c)|b(a|b)");
            int[] below = new int[20];
            java.util.Arrays.fill(below, 5);
            StringBuilder text = new StringBuilder();
            for (int k : drawn(seed, below)) {
                text.append(five[k]);
            }
            d.t.runs(seed);
            due("seed " + seed + ", twenty draws", d.ran(0), text.toString());
        }
    }

    private static void number() {
        Desk d = withProgram("u=0 0 0 0;v=1 1 1 1;", "a|b|c|aa|bb", "a|b|ab");
        String[] five = {"a", "b", "c", "aa", "bb"};
        String[] three = {"a", "b", "ab"};
        for (int seed : SEEDS) {
            int[] n = drawn(seed, 5, 5, 5, 5, 3, 3, 3, 3);
            due("steps", d.t.runs(seed), 2);
            due("below 5", d.ran(0), five[n[0]] + five[n[1]] + five[n[2]] + five[n[3]]);
            due("below 3", d.ran(1), three[n[4]] + three[n[5]] + three[n[6]] + three[n[7]]);
        }
    }

    /** The lengths that a part draws, if the pattern has n texts: one of each length from 0. */
    private static void lengths(String pattern, int m) {
        boolean[] found = new boolean[m];
        for (int seed = 0; seed < 80; seed++) {
            Desk d = withProgram("u=0;", pattern);
            int n = drawn(seed, m)[0];
            d.t.runs(seed);
            due(pattern + " with seed " + seed, d.ran(0), "a".repeat(n));
            found[n] = true;
        }
        for (int n = 0; n < m; n++) {
            due("number " + n + " was drawn", found[n] ? 1 : 0, 1);
        }
    }

    private static void eight() {
        lengths("a*", 8);
        lengths("a?a?a?a?a?a?a?a?", 8);
        lengths("a?a?a?a?a?a?a?", 8);
    }

    private static void fewer() {
        lengths("a?a?a?a?a?a?", 7);
        lengths("a?a?", 3);
        lengths("a?", 2);
        lengths("", 1);
    }

    private static void oneDraw() {
        Desk d = withProgram("u=1;v=0;x=1 1 0;y='a'v;+{y='b';}{y='c';}", "(a|b)(a|b)(a|b)", "");
        for (int seed : SEEDS) {
            int[] n = drawn(seed, 1, 8, 1, 1, 8, 2);
            due("steps", d.t.runs(seed), 6);
            due("also of one text a number is drawn", d.ran(1), cube(n[1]));
            due("for each part", d.ran(2), cube(n[4]));
            due("not for others", d.ran(3), n[5] == 0 ? "b" : "c");
        }
    }

    private static void smallest() {
        Desk d = withProgram("u=0;v=1;", "(c|b|a)(b|a)*", "cc|b|a|bca");
        String[] eight = {"a", "b", "c", "aa", "ab", "ba", "bb", "ca"};
        String[] four = {"a", "b", "cc", "bca"};
        for (int seed : SEEDS) {
            int[] n = drawn(seed, 8, 4);
            d.t.runs(seed);
            due("of eight", d.ran(0), eight[n[0]]);
            due("of four", d.ran(1), four[n[1]]);
        }
        for (int seed : SEEDS) {
            Desk e = withProgram("u=0;v=1;", "(..........)*", ".........(.)*");
            int[] n = drawn(seed, 8, 8);
            due("steps", e.t.runs(seed), 2);
            due("of ten letters but the first one", e.ran(0), n[0] == 0 ? "" : "a".repeat(7) + three(n[0] - 1));
            due("of nine letters", e.ran(1), "a".repeat(6) + three(n[1]));
        }
    }

    private static String three(int number) {
        return "" + "abc".charAt(number / 9) + "abc".charAt(number / 3 % 3) + "abc".charAt(number % 3);
    }

    private static void plus() {
        Desk d = withProgram("+{u=u'a';}{u=u'b';}".repeat(6));
        for (int seed : SEEDS) {
            StringBuilder text = new StringBuilder();
            for (int n : drawn(seed, 2, 2, 2, 2, 2, 2)) {
                text.append(n == 0 ? 'a' : 'b');
            }
            due("steps", d.t.runs(seed), 12);
            due("seed " + seed, d.ran(0), text.toString());
        }
    }

    private static int[] threes(int seed) {
        int[] below = new int[60];
        java.util.Arrays.fill(below, 3);
        return drawn(seed, below);
    }

    private static void star() {
        Desk d = withProgram("*{u=u'a';}*{v=v'b';}");
        for (int seed : SEEDS) {
            int[] n = threes(seed);
            int at = 0;
            StringBuilder u = new StringBuilder();
            while (n[at++] != 0) {
                u.append('a');
            }
            StringBuilder v = new StringBuilder();
            while (n[at++] != 0) {
                v.append('b');
            }
            due("steps", d.t.runs(seed), 2 + 2 * u.length() + 2 * v.length());
            due("seed " + seed, d.ran(0) + "." + d.ran(1), u + "." + v);
        }
        d = withProgram("*{*{u=u'a';}}");
        due("a loop in it", d.t.runs(0), 1);
    }

    private static void steps() {
        String[] programs = {"", "u='a';", "u/ab;", "!u0;", "?u0{}{}", "?u1{}{}", "+{}{}", "?u0{v='a';}{}",
            "?u0{}{v='a';}", "?u1{}{v='a';v='b';}", "+{v='a';}{v='a';}", "!u1;", "u=u;u=u;u=u;", "?u0{?u0{!u0;}{}}{}",
            "u/aa;v/b-;"};
        int[] steps = {0, 1, 1, 1, 1, 1, 1, 2, 1, 3, 2, 1, 3, 3, 2};
        for (int i = 0; i < programs.length; i++) {
            due(programs[i], withProgram(programs[i], "", "a").t.runs(0), steps[i]);
        }
    }

    private static void loopSteps() {
        due("no time", withProgram("#u0{v='a';}", "a").t.runs(0), 1);
        due("once", withProgram("#u0{u='a';}", "").t.runs(0), 3);
        due("twice", withProgram("#u0{u=u'a';}", "a?").t.runs(0), 5);
        due("without a statement in it", withProgram("#u0{#u1{}u=u'a';}", "a?", "b").t.runs(0), 7);
        Desk d = withProgram("*{}");
        Desk e = withProgram("*{u='a';v='b';}");
        for (int seed : SEEDS) {
            int[] n = threes(seed);
            int times = 0;
            while (n[times] != 0) {
                times++;
            }
            due("an empty one", d.t.runs(seed), times + 1);
            due("of two statements", e.t.runs(seed), 3 * times + 1);
        }
    }

    private static void notInAddition() {
        due("#", withProgram("#u0{}#u0{}#v0{}", "a").t.runs(0), 3);
        Desk d = withProgram("*{}*{}*{}");
        int none = 0;
        for (int seed = 0; seed < 300; seed++) {
            int[] n = drawn(seed, 3, 3, 3);
            if (n[0] + n[1] + n[2] == 0) {
                due("*", d.t.runs(seed), 3);
                none++;
            }
        }
        due("there are such seeds", none > 0 ? 1 : 0, 1);
        due("in another loop", withProgram("#u0{u='a';#u0{}}", "").t.runs(0), 4);
    }

    private static void hundredAndOne() {
        due("a hundred steps", withProgram(HUNDRED, NINE).t.runs(0), 100);
        String[] more = {"v=v;", "v/ab;", "!v1;", "!u1;", "?v0{}{}", "?u0{}{}", "#u0{}", "#v1{}", "+{}{}", "*{}"};
        for (String m : more) {
            due("one more behind: " + m, withProgram(HUNDRED + m, NINE, "b").t.runs(0), LOST);
        }
        due("one more before", withProgram("v=v;" + HUNDRED, NINE).t.runs(0), LOST);
        due("one less and one more", withProgram("v=v;" + HUNDRED.replaceFirst("v=v;", "") + "v=v;".repeat(8), NINE)
                .t.runs(0), 100);
        due("one less and two more", withProgram("v=v;" + HUNDRED.replaceFirst("v=v;", "") + "v=v;".repeat(9), NINE)
                .t.runs(0), LOST);
        due("no end", withProgram("#u0{}").t.runs(0), LOST);
        due("no end", withProgram("#u0{#u0{v='a';}}").t.runs(0), LOST);
        ninetyNine();
    }

    private static void ninetyNine() {
        Desk d = withProgram(HUNDRED.replaceFirst("v=v;", "") + "v=v;".repeat(8) + "*{}", NINE);
        int lost = 0;
        for (int seed = 0; seed < 40; seed++) {
            boolean ends = threes(seed)[0] == 0;
            due("the last step draws, seed " + seed, d.t.runs(seed), ends ? 100 : LOST);
            lost += ends ? 0 : 1;
        }
        due("both come", lost > 0 && lost < 40 ? 1 : 0, 1);
        d = withProgram(HUNDRED.replaceFirst("v=v;", "") + "v=v;".repeat(8) + "+{x='a';}{}", NINE);
        for (int seed = 0; seed < 40; seed++) {
            due("the last step is a choice, seed " + seed, d.t.runs(seed), drawn(seed, 2)[0] == 0 ? LOST : 100);
        }
    }

    private static void fortyOne() {
        String forty = "ab".repeat(20);
        Desk d = withProgram("u='" + forty + "';");
        due("forty letters", d.t.runs(0), 1);
        due("text", d.ran(0), forty);
        due("forty-one", withProgram("u='" + forty + "c';").t.runs(0), LOST);
        due("by a variable", withProgram("u='" + forty + "';v=u;x=v'';y=''v x;").t.runs(0), LOST);
        d = withProgram("u='" + forty + "';v=u;x=v'';x=y u;");
        due("by a variable", d.t.runs(0), 4);
        due("text", d.ran(2), forty);
        due("one letter more", withProgram("u='" + forty + "';u=u'a';").t.runs(0), LOST);
        due("one letter more", withProgram("u='" + forty + "';u='a'u;").t.runs(0), LOST);
        d = withProgram("u='abcabcabca';v=uuuu;v/ab;v/c-;x=vu'aa';");
        due("twenty-eight are left", d.t.runs(0), 5);
        due("text", d.ran(2), "b".repeat(28) + "abcabcabca" + "aa");
        due("one more", withProgram("u='abcabcabca';v=uuuu;v/ab;v/c-;x=vu'aab';").t.runs(0), LOST);
        due("twice twenty and one", withProgram("u='aaaaaaaaaa';v='b'uu;x=uuv;").t.runs(0), LOST);
        patternTexts();
    }

    private static void patternTexts() {
        Desk d = withProgram("u=0;", "(aaaaaaaaa)*");
        Desk e = withProgram("u=0'aaaa';v=u'';", "(aaaaaaaaa)*");
        Desk f = withProgram("u=0'aaaaa';", "(aaaaaaaaa)*");
        for (int seed = 0; seed < 60; seed++) {
            int n = drawn(seed, 8)[0];
            due("nine times " + n, d.t.runs(seed), n < 5 ? 1 : LOST);
            due("nine times " + n + " and four", e.t.runs(seed), n < 5 ? 2 : LOST);
            due("nine times " + n + " and five", f.t.runs(seed), n < 4 ? 1 : LOST);
        }
    }
}
