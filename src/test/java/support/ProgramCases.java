/** Section 2: programs. */
final class ProgramCases extends Cases {
    private ProgramCases() {
    }

    static void all(Sentences s) {
        s.in("2. Programs");
        s.of("There are four variables, 0 to 3, written u, v, x, y.", d -> variables(d));
        s.of("Each holds a text, the empty one at first.", d -> emptyAtFirst(d));
        s.of("A program is a sequence of statements, possibly of none;", d -> noStatement(d));
        s.of("at first it is empty.", d -> atFirst(d));
        s.of("In the following V is a variable,", d -> onlyVariables());
        s.of("i a digit 0 to 3 for a pattern,", d -> digits());
        s.of("and S a sequence of statements, which can be empty:", d -> emptySequences(d));
        s.of("V = C ; V becomes the concatenation of the parts of C, one or more.", d -> parts());
        s.of("A part is a variable;", d -> variableParts());
        s.of("or letters between two apostrophes ', possibly none;", d -> letterParts());
        s.of("or a digit i, which means any one text of pattern i.", d -> digitParts());
        s.of("V / p q ; in the text of V every letter p is replaced by the letter q,", d -> replace());
        s.of("or is removed if q is -.", d -> remove());
        s.of("! V i ; an alarm: it is raised if the text of V is in pattern i.", d -> alarm());
        s.of("? V i {S} {S} the first S if the text of V is in pattern i, otherwise the second S.", d -> test());
        s.of("# V i {S} S is repeated as long as the text of V is in pattern i", d -> asLong());
        s.of("(it is tested before each time).", d -> before());
        s.of("+ {S} {S} either of both.", d -> either());
        s.of("* {S} S is repeated any number of times, possibly never.", d -> anyNumber());
        s.of("Braces can be nested at most 5 deep.", d -> fiveDeep(d));
        s.of("Alarms are numbered from 0 in the order of the text.", d -> alarmNumbers(d));
        s.of("Patterns that are changed after a program has been read are used with their present languages.",
                d -> presentPatterns(d));
    }

    private static void variables(Desk d) {
        d.program("u='a';v='b';x='c';y='ab';");
        due("in the analysis", d.texts(0, 2) + d.texts(1, 2) + d.texts(2, 2) + d.texts(3, 2), "a.b.c.ab.");
        due("run", d.t.runs(0), 4);
        due("in the run", d.ran(0) + "." + d.ran(1) + "." + d.ran(2) + "." + d.ran(3), "a.b.c.ab");
        for (char c : "twzUVXY0a".toCharArray()) {
            due("no variable: " + c, asProgram(c + "='a';"), -10);
        }
    }

    private static void emptyAtFirst(Desk d) {
        d.program("u=uvxy;");
        due("in the analysis", d.texts(0, 2), ".");
        due("run", d.t.runs(0), 1);
        for (int v = 0; v < 4; v++) {
            due("language " + v, d.texts(v, 2), ".");
            due("in the run", d.ran(v), "");
        }
        d.program("u='ab';");
        d.t.runs(0);
        d.program("v=u;");
        d.t.runs(0);
        due("in the next run, too", d.ran(0) + d.ran(1), "");
    }

    private static void noStatement(Desk d) {
        due("an empty buffer", d.program(""), 0);
        due("spaces", d.program("   "), 0);
        due("statements", d.t.count(0), 0);
        due("steps", d.t.runs(9), 0);
        due("one", d.program("*{}"), 1);
        due("forty", d.program("*{}".repeat(40)), 40);
    }

    private static void atFirst(Desk d) {
        due("statements", d.t.count(0), 0);
        due("alarms", d.t.alarms(), 0);
        due("steps", d.t.runs(1), 0);
        due("languages", d.texts(0, 2) + d.texts(3, 2), "..");
    }

    private static void onlyVariables() {
        for (char v : "uvxy".toCharArray()) {
            due("all statements with " + v, asProgram("V=V;V/ab;!V0;?V0{}{}#V0{}".replace('V', v)), 5);
        }
        for (char c : "wz0a'".toCharArray()) {
            due("! " + c, asProgram("!" + c), -11);
            due("? " + c, asProgram("?" + c), -11);
            due("# " + c, asProgram("#" + c), -11);
        }
    }

    private static void digits() {
        for (char i : "0123".toCharArray()) {
            due("all statements with " + i, asProgram("u=i;!ui;?ui{}{}#ui{}".replace('i', i)), 4);
        }
        for (char c : "/456789:-a".toCharArray()) {
            due("u= " + c, asProgram("u=" + c), -12);
            due("!u " + c, asProgram("!u" + c), -12);
            due("?u " + c, asProgram("?u" + c), -12);
            due("#u " + c, asProgram("#u" + c), -12);
        }
    }

    private static void emptySequences(Desk d) {
        due("? # + *", d.program("?u0{}{}?u0{u=u;}{}?u0{}{u=u;}#u1{}+{}{}+{u=u;}{}+{}{u=u;}*{}"), 12);
        due("two statements", d.program("*{u='a';v='b';}?u0{u='a';v='b';}{u='a';v='b';}"), 8);
        d.pattern(1, "b");
        due("steps", d.program("?u0{}{}?u1{}{}#u1{}"), 3);
        due("steps", d.t.runs(0), 3);
    }

    private static void parts() {
        due("none", asProgram("u=;"), -12);
        due("no ;", asProgram("u=v"), -13);
        Desk d = withProgram("u='a';v=u;x=u'b';y=x'c'u x;");
        due("one", d.texts(1, 2), "a.");
        due("two", d.texts(2, 2), "ab.");
        due("four", d.texts(3, 2), "abcaab.");
        d.t.runs(0);
        due("in a run", d.ran(1) + "." + d.ran(2) + "." + d.ran(3), "a.ab.abcaab");
        d = withProgram("v='b';u=" + "x".repeat(110) + "v;");
        due("111 parts", d.texts(0, 2), "b.");
        due("run", d.t.runs(0), 2);
        due("in a run", d.ran(0), "b");
    }

    private static void variableParts() {
        Desk d = withProgram("u='a';v='b';x='c';y=xvuy;u=yu;v=v;");
        d.t.runs(0);
        due("languages", d.texts(3, 2) + d.texts(0, 2) + d.texts(1, 2), "cba.cbaa.b.");
        due("texts", d.ran(3) + "." + d.ran(0) + "." + d.ran(1), "cba.cbaa.b");
    }

    private static void letterParts() {
        Desk d = withProgram("u='';v='c';x='abc''cba';y=''''u'';");
        d.t.runs(0);
        due("languages", d.texts(0, 2) + d.texts(1, 2) + d.texts(2, 2) + d.texts(3, 2), ".c.abccba..");
        due("texts", d.ran(0) + "." + d.ran(1) + "." + d.ran(2) + "." + d.ran(3), ".c.abccba.");
        due("one apostrophe", asProgram("u='a;"), -14);
        due("one apostrophe", asProgram("u='a"), -14);
        due("no apostrophe", asProgram("u=a;"), -12);
        due("no letter", asProgram("u='d';"), -13);
        due("no letter", asProgram("u='u';"), -13);
        due("no letter", asProgram("u='0';"), -13);
    }

    private static void digitParts() {
        Desk d = withProgram("u=0;v=1 2;x=3;", "a|b", "c", "", "ab");
        due("languages", d.texts(0, 3) + d.texts(1, 3) + d.texts(2, 3), "a.b.c.ab.");
        due("run", d.t.runs(5), 3);
        due("a text", "ab".contains(d.ran(0)) ? d.ran(0).length() : 0, 1);
        due("texts", d.ran(1) + "." + d.ran(2), "c.ab");
    }

    private static void replace() {
        Desk d = withProgram("u='abaca';u/ab;v='ccc';v/ca;x='ab';x/aa;y/ab;");
        d.t.runs(0);
        due("languages", d.texts(0, 2) + d.texts(1, 2) + d.texts(2, 2) + d.texts(3, 2), "bbbcb.aaa.ab..");
        due("texts", d.ran(0) + "." + d.ran(1) + "." + d.ran(2) + "." + d.ran(3), "bbbcb.aaa.ab.");
        due("no letter before", asProgram("u/-a;"), -12);
        due("no letter before", asProgram("u/da;"), -12);
        due("no letter behind", asProgram("u/ad;"), -13);
        due("no letter behind", asProgram("u/a;"), -13);
        due("no third letter", asProgram("u/abc;"), -14);
    }

    private static void remove() {
        Desk d = withProgram("u='abaca';u/a-;v='ccc';v/c-;x='ab';x/c-;y/a-;");
        d.t.runs(0);
        due("languages", d.texts(0, 2) + d.texts(1, 2) + d.texts(2, 2) + d.texts(3, 2), "bc..ab..");
        due("texts", d.ran(0) + "." + d.ran(1) + "." + d.ran(2) + "." + d.ran(3), "bc..ab.");
        due("not twice", asProgram("u/--;"), -12);
        due("not twice", asProgram("u/a--;"), -14);
    }

    private static void alarm() {
        Desk d = withProgram("!u0;!u1;u='b';!u1;!u0;!v2;", "", "b", "a*");
        d.t.runs(0);
        due("in the run", d.t.rang(), 3);
        String may = "";
        for (int j = 0; j < 5; j++) {
            may += d.t.alarm(j, 0);
        }
        due("in the analysis", may, "10101");
        d = withProgram("!u1;!u1;!u1;u='a';u/ab;u/bc;u/ca;v/a-;", ".*", "aaa", ".*");
        d.t.runs(0);
        due("/ is none", d.t.rang() + d.t.alarm(0, 0) + d.t.alarm(1, 0) + d.t.alarm(2, 0), 0);
    }

    private static void test() {
        Desk d = withProgram("?u0{v='a';}{v='b';}?v0{x='a';}{x='b';}", "");
        d.t.runs(0);
        due("in the run", d.ran(1) + "." + d.ran(2), "a.b");
        due("in the analysis", d.texts(1, 3) + d.texts(2, 3), "a.b.");
        due("one S", asProgram("?u0{}"), -15);
        due("three S", asProgram("?u0{}{}{}"), -17);
    }

    private static void asLong() {
        Desk d = withProgram("#u0{u=u'a';}", "a?a?");
        due("steps: four tests and three times", d.t.runs(0), 7);
        due("text", d.ran(0), "aaa");
        due("two S", asProgram("#u0{}{}"), -15);
        d = withProgram("u='b';#u0{u=u'b';}#u0{}", "(b(b)?)?");
        due("steps", d.t.runs(0), 7);
        due("text", d.ran(0), "bbb");
    }

    private static void before() {
        Desk d = withProgram("#u0{v='b';}", "a");
        due("steps", d.t.runs(0), 1);
        due("not once", d.ran(1), "");
        due("in the analysis, too", d.texts(1, 2), ".");
    }

    private static void either() {
        Desk d = withProgram("+{u='a';}{u='b';}");
        due("in the analysis", d.texts(0, 3), "a.b.");
        String found = "";
        for (int seed = 0; seed < 40; seed++) {
            due("steps", d.t.runs(seed), 2);
            found += d.ran(0);
        }
        due("the first one", found.contains("a") ? 1 : 0, 1);
        due("the second one", found.contains("b") ? 1 : 0, 1);
        due("one S", asProgram("+{}"), -13);
        due("three S", asProgram("+{}{}{}"), -15);
    }

    private static void anyNumber() {
        Desk d = withProgram("*{u=u'a';}");
        due("in the analysis", d.texts(0, 4), ".a.aa.aaa.");
        boolean never = false;
        boolean often = false;
        for (int seed = 0; seed < 60; seed++) {
            int steps = d.t.runs(seed);
            int length = d.ran(0).length();
            due("steps", steps, 1 + 2 * length);
            never |= length == 0;
            often |= length > 2;
        }
        due("never", never ? 1 : 0, 1);
        due("three times and more", often ? 1 : 0, 1);
        due("two S", asProgram("*{}{}"), -13);
    }

    private static void fiveDeep(Desk d) {
        due("five", d.program("*{*{*{*{*{u='a';}}}}}"), 6);
        due("the analysis goes there", d.texts(0, 3), ".a.");
        String[] openers = {"*{", "#u0{", "+{", "+{}{", "?u0{", "?u0{}{"};
        String[] closers = {"}", "}", "}{}", "}", "}{}", "}"};
        int[] braces = {1, 3, 1, 1, 3, 3};
        for (int i = 0; i < openers.length; i++) {
            due("the fifth by " + openers[i], asProgram("*{*{*{*{" + openers[i] + closers[i] + "}}}}"), 5);
            due("the sixth in " + openers[i], asProgram("*{*{*{*{" + openers[i] + "*{"), -10 - 9 - openers[i].length());
            due("the sixth by " + openers[i], asProgram("*{*{*{*{*{" + openers[i]), -20 - braces[i]);
        }
        due("five again and again", asProgram("*{*{*{*{*{}*{}}*{*{}}}}}*{*{*{*{*{}}}}}"), 13);
        due("a closed one does not count", asProgram("*{}*{*{}*{*{}*{*{}*{*{}}}}}"), 9);
        nestedAnalysis();
        nestedRuns();
    }

    private static void nestedAnalysis() {
        Desk d = withProgram("+{u='a';}{+{u='b';}{+{u='c';}{+{u='aa';}{+{u='bb';}{u='cc';}}}}}");
        due("+ in the second S", d.texts(0, 9), "a.b.c.aa.bb.cc.");
        d = withProgram("+{+{+{+{+{u='a';}{u='b';}}{u='c';}}{u='aa';}}{u='bb';}}{u='cc';}");
        due("+ in the first S", d.texts(0, 9), "a.b.c.aa.bb.cc.");
        d = withProgram("u=0;?u1{}{?u2{}{?u3{}{?u1{v='ab';}{?u2{v='ac';}{v='ba';}}}}}", "aa?a?a?a?a?", "a", "aa",
                "aaa");
        due("? in the second S", d.texts(1, 9), ".ba.");
        due("all is joined", d.t.within(0, 4) + d.t.within(4, 0), 2);
        d = withProgram("u=1;?u0{?u0{?u0{?u0{?u0{v='a';}{v='b';}}{v='b';}}{v='b';}}{v='b';}}{v='c';}", "a", "a|b");
        due("? in the first S", d.texts(1, 9) + d.texts(0, 9), "a.c.a.b.");
        d = withProgram("*{*{*{*{*{u=u'a';}}}}}");
        due("* in *", d.texts(0, 4), ".a.aa.aaa.");
        due("its rounds: 3 and 1, 2, and so on", d.t.count(1) * 10 + d.t.count(2), 213);
        d = withProgram("+{*{+{u=u'a';}{u=u'b';}}}{u='c';}");
        due("+ in * in +", d.texts(0, 6), ".a.b.c.aa.ab.");
        due("its rounds", d.t.count(1), 3);
        d = withProgram("+{u='c';}{?v0{*{u=u'a';}}{}}");
        due("* in ? in +", d.texts(0, 5), ".a.c.aa.aaa.");
        d = withProgram("*{#u0{u=u'a';}}", "a?");
        d.t.sets(0, 5);
        due("# in *", d.texts(0, 4), ".aa.");
        due("its rounds: 3, 2, and 2", d.t.count(1) * 10 + d.t.count(2), 73);
        d = withProgram("#u0{?u1{u='a';}{*{v='b';}u='c';}}", "a?", "");
        due("? and * in #", d.texts(0, 4) + d.texts(1, 4), "c..b.");
    }

    private static void nestedRuns() {
        Desk d = withProgram("?u0{?u0{?u0{?u0{?u0{v='a';}{}}{}}{}}{}}{}");
        due("? in the first S", d.t.runs(0), 6);
        due("text", d.ran(1), "a");
        d = withProgram("?u0{}{?u0{}{?u0{}{?u0{}{?u0{}{v='a';}}}}}", "a");
        due("? in the second S", d.t.runs(0), 6);
        due("text", d.ran(1), "a");
        d = withProgram("#u0{#u0{#u0{#u0{#u0{u='a';}}}}}", "");
        due("# in #", d.t.runs(0), 11);
        due("text", d.ran(0), "a");
        d = withProgram("+{+{+{+{+{u='a';}{u='b';}}{}}{}}{}}{}");
        Desk e = withProgram("+{}{+{}{+{}{+{}{+{u='a';}{u='b';}}}}}");
        String[] found = {"", ""};
        for (int seed = 0; seed < 100; seed++) {
            int[] n = drawn(seed, 2, 2, 2, 2, 2);
            boolean first = n[0] + n[1] + n[2] + n[3] == 0;
            boolean second = n[0] + n[1] + n[2] + n[3] == 4;
            String last = n[4] == 0 ? "a" : "b";
            d.t.runs(seed);
            due("+ in the first S, seed " + seed, d.ran(0), first ? last : "");
            e.t.runs(seed);
            due("+ in the second S, seed " + seed, e.ran(0), second ? last : "");
            found[0] += first ? last : "";
            found[1] += second ? last : "";
        }
        due("there are such seeds", found[0].isEmpty() || found[1].isEmpty() ? 0 : 1, 1);
        d = withProgram("*{*{*{*{*{u=u'a';}}}}}");
        int deep = 0;
        for (int seed = 0; seed < 60; seed++) {
            int[] below = new int[200];
            java.util.Arrays.fill(below, 3);
            int[] at = {0, 0, 0};
            stars(drawn(seed, below), at, 0);
            boolean lost = at[1] > 100 || at[2] > 40;
            due("* in *, seed " + seed, d.t.runs(seed), lost ? LOST : at[1]);
            deep += at[2] > 0 && !lost ? 1 : 0;
        }
        due("there are such seeds", deep > 0 ? 1 : 0, 1);
    }

    /** Five loops in each other; at has how many numbers were drawn, how many steps, and how many letters there are. */
    private static void stars(int[] numbers, int[] at, int depth) {
        at[1]++;
        while (at[1] <= 100 && numbers[at[0]++] != 0) {
            if (depth == 4) {
                at[1]++;
                at[2]++;
            } else {
                stars(numbers, at, depth + 1);
            }
            at[1]++;
        }
    }

    private static void alarmNumbers(Desk d) {
        d.program("!u0;?u0{!v0;*{!x0;}}{!y0;}!u1; !u2;");
        due("how many", d.t.alarms(), 6);
        int[] places = {0, 8, 14, 21, 26, 31};
        for (int j = 0; j < 6; j++) {
            due("alarm " + j, d.t.alarm(j, 1), places[j]);
        }
        Desk e = withProgram("!u1;!u0;*{!v1;!v0;}!u1;", "", "a");
        due("which may be raised", "" + e.t.alarm(0, 0) + e.t.alarm(1, 0) + e.t.alarm(2, 0) + e.t.alarm(3, 0)
                + e.t.alarm(4, 0), "01010");
        due("none before", d.t.alarm(-1, 0), BAD);
        due("none behind", d.t.alarm(6, 0), BAD);
    }

    private static void presentPatterns(Desk d) {
        d.program("u=0;?u1{v='b';}{v='c';}!u1;");
        due("at first", d.t.value(0, 3), 1);
        d.pattern(0, "a");
        due("the part", d.texts(0, 2), "a.");
        due("the test", d.texts(1, 2), "b.");
        due("the alarm", d.t.alarm(0, 0), 1);
        d.pattern(1, "c");
        due("the test", d.texts(1, 2), "c.");
        due("the alarm", d.t.alarm(0, 0), 0);
        due("run", d.t.runs(0), 4);
        due("in a run", d.ran(0) + d.ran(1), "ac");
        d.pattern(1, "a");
        d.t.runs(0);
        due("in a run", d.ran(0) + d.ran(1) + d.t.rang(), "ab1");
        due("value", later().t.value(0, 1), 2);
        due("many", later().t.many(0, 2), 1);
        due("text", later().t.text(0, 0, 1), 'b');
        due("holds", later().t.holds(0), 1);
        due("within", later().t.within(0, 4), 1);
        due("within, the second one", later().t.within(4, 0), 1);
        due("alarm", later().t.alarm(0, 2), 2);
        due("raised", later().t.raised(0, 1), 'b');
        due("count", later().t.count(2), 1);
        due("caught", later().t.caught(), 14);
    }

    /** An object whose pattern 0 is another one than when it was asked for the last time; the buffer has its text. */
    private static Desk later() {
        Desk d = withProgram("u=0;!u0;#u1{}", "", "c");
        due("count", d.t.count(2), 1);
        due("caught", d.t.caught(), 15);
        due("before", d.t.value(0, 1) + d.t.within(0, 4) + d.t.alarm(0, 0), 2);
        d.pattern(0, "ab");
        return d;
    }
}
