/** Each promise of the document with ordinary inputs, its edges and wrong inputs. */
public final class Promises {
    private static final int NONE = -1, BAD = -2, NO = -3, FULL = -4, FEWER = -5, LOST = -6, ENDLESS = 1000;
    private static final int[] FAR = {Integer.MIN_VALUE, -1000, -1, 1000, 1 << 30, Integer.MAX_VALUE};
    /** Behind it the state is impossible, while pattern 0 is ALL. */
    private static final String IMPOSSIBLE = "#u0{}";

    private Promises() {
    }

    public static void main(String[] args) {
        newObject();
        typeAndClear();
        patterns();
        patternFaults();
        programs();
        programFaults();
        setsAndTold();
        values();
        manyAndText();
        holdsAndWithin();
        alarms();
        counts();
        steps();
        draws();
        runResults();
        backs();
        digests();
        refusalsChangeNothing();
        System.out.println("Promises: " + Desk.answers + " answers, " + Desk.wrong + " wrong");
        if (Desk.wrong > 0) {
            System.exit(1);
        }
    }

    private static Desk start(String where) {
        Desk.where = where;
        return new Desk();
    }

    private static void due(String what, long got, long want) {
        Desk.due(what, got, want);
    }

    private static void due(String what, String got, String want) {
        Desk.due(what, got, want);
    }

    private static void newObject() {
        Desk d = start("1, a new object");
        due("statements", d.t.count(0), 0);
        due("alarms", d.t.alarms(), 0);
        for (int i = 0; i < 4; i++) {
            due("ALL", d.t.value(4 + i, 3), 1);
            due("only the empty text", d.texts(i, 3), ".");
        }
        due("DELAY", d.t.told(3), 1);
        due("K", d.t.told(4), 1);
        due("buffer", d.t.told(5), 0);
        due("remembered", d.t.told(6), 0);
        due("refusals", d.t.told(0) + d.t.told(1) + d.t.told(2), 0);
        due("caught", d.t.caught(), 15);
        due("rang", d.t.rang(), 0);
        due("clear", d.t.clear(), 0);
        due("back", d.t.back(), NO);
    }

    private static void typeAndClear() {
        Desk d = start("2, type, and 3, clear");
        due("type(0)", d.t.type(0), 1);
        due("type(127)", d.t.type(127), 2);
        for (int c : FAR) {
            due("far", d.t.type(c), BAD);
        }
        due("type(128)", d.t.type(128), BAD);
        due("told(0)", d.t.told(0), FAR.length + 1);
        due("clear", d.t.clear(), 2);
        due("clear again", d.t.clear(), 0);
        for (int i = 1; i <= 120; i++) {
            due("type", d.t.type('a'), i);
        }
        due("full", d.t.type('a'), FULL);
        due("bad comes before full", d.t.type(-1), BAD);
        due("told(2)", d.t.told(2), 1);
        due("told(5)", d.t.told(5), 120);
        due("clear", d.t.clear(), 120);
        due("type", d.t.type('a'), 1);
    }

    private static void patterns() {
        Desk d = start("4, pattern");
        due("empty", d.pattern(0, ""), 2);
        due("spaces", d.pattern(0, "   "), 2);
        due("texts", d.texts(4, 3), ".");
        due("()", d.pattern(0, "()"), 2);
        due("()*", d.pattern(0, "()*"), 2);
        due("|", d.pattern(0, "|"), 2);
        due("a|", d.pattern(0, "a|"), 3);
        due("texts", d.texts(4, 3), ".a.");
        due(".*", d.pattern(0, ".*"), 1);
        due("(a|b|c)*", d.pattern(0, "(a|b|c)*"), 1);
        due("a|bc*", d.pattern(0, "a|bc*"), 4);
        due("texts", d.texts(4, 4), "a.b.bc.bcc.");
        due("a b ? c", d.pattern(0, " a b ? c "), 5);
        due("texts", d.texts(4, 4), "ac.abc.");
        due("(a b)*?", d.pattern(0, "((a b)*)?"), 3);
        due("..", d.pattern(0, ".."), 4);
        due("many", d.t.many(4, 2), 9);
        due("eight letters", d.pattern(1, "abcabcab"), 10);
        due("nine letters", d.pattern(1, "abcabcabc"), 1);
        due("become ALL", d.t.value(5, 3), 1);
        due("ten dots", d.pattern(1, "(..........)*"), 10);
        due("the buffer stays", d.t.told(5), 13);
        due("nested", d.pattern(2, "(".repeat(59) + "a" + ")".repeat(59)), 3);
        due("nested stars", d.pattern(2, "((a*)*|(b*)*)*"), 2);
        due("texts", d.texts(6, 4), ".a.b.aa.");
        for (int i : FAR) {
            due("far", d.t.pattern(i), BAD);
        }
        due("pattern(4)", d.t.pattern(4), BAD);
        d.write("(");
        due("bad comes before a fault", d.t.pattern(4), BAD);
    }

    private static void patternFaults() {
        Desk d = start("4, faults");
        String[] faulty = {"*", "?a", "a**", "a*?", "a?*", "|*", "(*)", ")", "a)", "(a", "(", "((a)", "A", "d", "a-",
            "0", "a|)", "abcabcabcab", "..........a", "(a|b|c|a|b|c|a|b|c|a|b", "  (", "a \t", "a * *", "()**", "u"};
        int[] places = {0, 0, 2, 2, 2, 1, 1, 0, 1, 2, 1, 4, 0, 0, 1, 0, 2, 10, 10, 21, 3, 2, 4, 3, 0};
        for (int i = 0; i < faulty.length; i++) {
            due(faulty[i], d.pattern(0, faulty[i]), -10 - places[i]);
        }
        due("open to the end", d.pattern(0, "(".repeat(120)), -130);
        due("still ALL", d.t.value(4, 3), 1);
        due("not counted", d.t.told(0) + d.t.told(1) + d.t.told(2), 0);
        due("not remembered", d.t.told(6), 0);
    }

    private static void programs() {
        Desk d = start("5, program");
        due("empty", d.program(""), 0);
        due("spaces", d.program("  "), 0);
        due("all kinds", d.program("u='a';v/a-;!u0;?v1{x=u;}{y=0;}#x2{}+{}{u=u;}*{*{}}"), 11);
        due("statements", d.t.count(0), 11);
        due("spaces", d.program(" u = ' a b ' v 0 ; "), 1);
        due("texts", d.t.told(5), 19);
        due("empty quotes", d.program("u='';"), 1);
        due("texts", d.texts(0, 2), ".");
        due("parts", d.program("u='ab';v=u'c'u''u;"), 2);
        due("texts", d.texts(1, 2), "abcabab.");
        due("five deep", d.program("*{?u0{#v1{+{*{u='a';}}{}}}{}}"), 6);
        due("forty statements", d.program("*{}".repeat(40)), 40);
        due("rounds", d.t.count(1), 40);
        due("many parts", d.program("u=" + "v".repeat(117) + ";"), 1);
        due("nine letters are ALL", d.program("u='abcabcabc';v='abcabcab';"), 2);
        due("u", d.t.value(0, 3), 1);
        due("v", d.texts(1, 2), "abcabcab.");
    }

    private static void programFaults() {
        Desk d = start("5, faults");
        d.program("u='a';");
        String[] faulty = {"a", "u", "u=", "u=;", "u='", "u='a", "u='d'", "u='a';;", "u=4;", "u=0", "u/", "u/a", "u/ab",
            "u/-a;", "u/ad;", "u/a-", "!", "!u", "!u4;", "!0", "!u0", "?u0{}", "?u0{}{", "?u0{}u", "#u0", "#u0{}{}",
            "#{", "+{}", "+u", "*", "*u", "*{", "*{u=0;", "}", "*{}}", "z=0;", "u==0;", "u='a'u'", "  *  {", "u='A';",
            "*{*{*{*{*{*{}}}}}}", "*{*{*{*{*{*", "*{*{*{*{*{?u0{", "u=u u v 0 u ' a ' a", "u!", "?u 9", "u=0;0"};
        int[] places = {0, 1, 2, 2, 3, 4, 3, 6, 2, 3, 2, 3, 4, 2, 3, 4, 1, 2, 2, 1, 3, 5, 6, 5, 3, 5, 1, 3, 1, 1, 1, 2,
            6, 0, 3, 0, 2, 7, 6, 3, 11, 11, 13, 18, 1, 3, 4};
        for (int i = 0; i < faulty.length; i++) {
            due(faulty[i], d.program(faulty[i]), -10 - places[i]);
        }
        due("the program stays", d.texts(0, 2), "a.");
        due("not counted", d.t.told(0) + d.t.told(1) + d.t.told(2), 0);
        due("not remembered", d.t.told(6), 1);
    }

    private static void setsAndTold() {
        Desk d = start("6, sets, and 21, told");
        due("sets(0, 5)", d.t.sets(0, 5), 1);
        due("sets(0, 0)", d.t.sets(0, 0), 5);
        due("sets(1, 0)", d.t.sets(1, 0), 1);
        due("sets(1, 1)", d.t.sets(1, 1), 0);
        due("sets(0, 3)", d.t.sets(0, 3), 0);
        due("told(3)", d.t.told(3), 3);
        due("told(4)", d.t.told(4), 1);
        due("told(6)", d.t.told(6), 5);
        int[][] bad = {{0, 6}, {0, -1}, {1, 2}, {1, -1}, {2, 0}, {-1, 0}, {Integer.MAX_VALUE, 1},
            {0, Integer.MIN_VALUE}};
        for (int[] b : bad) {
            due("bad", d.t.sets(b[0], b[1]), BAD);
        }
        due("told(0)", d.t.told(0), bad.length);
        due("told(7)", d.t.told(7), BAD);
        due("told(-1)", d.t.told(-1), BAD);
        due("told(0)", d.t.told(0), bad.length + 2);
        due("told(6)", d.t.told(6), 5);
        d.program(IMPOSSIBLE);
        due("no", d.t.value(0, 0), NO);
        due("told(1)", d.t.told(1), 1);
        due("told(2)", d.t.told(2), 0);
        due("told(5)", d.t.told(5), IMPOSSIBLE.length());
    }

    private static void values() {
        Desk d = start("7, value");
        d.pattern(0, "ab?|ccc");
        long[] want = {6, 1, 3, 0, 0};
        for (int what = 0; what < 5; what++) {
            due("value(4, " + what + ")", d.t.value(4, what), want[what]);
        }
        due("endless", d.pattern(1, "(aaaaaaaaa)*"), 10);
        due("endless", d.t.value(5, 2), ENDLESS);
        due("longest", d.pattern(1, "........"), 10);
        due("longest", d.t.value(5, 2), 8);
        due("of every tenth length", d.pattern(2, "(..........)*"), 10);
        due("endless", d.t.value(6, 2), ENDLESS);
        due("shortest", d.t.value(5, 1), 8);
        due("all", d.t.value(7, 3), 1);
        due("not nothing", d.t.value(7, 4), 0);
        for (int far : FAR) {
            due("v", d.t.value(far, 0), BAD);
            due("what", d.t.value(0, far), BAD);
        }
        due("v", d.t.value(8, 0), BAD);
        due("what", d.t.value(0, 5), BAD);
        d.program("?u3{}{u='a';}#u3{}");
        due("no", d.t.value(3, 0), NO);
        due("bad comes before no", d.t.value(0, 5), BAD);
        due("patterns are there", d.t.value(4, 0), 6);
    }

    private static void manyAndText() {
        Desk d = start("8, many, and 9, text");
        d.pattern(0, "(aaaaaaaaa)*");
        d.pattern(1, "a(b|c)*");
        due("3 to the power of 20", d.t.many(7, 20), 3486784401L);
        due("one", d.t.many(4, 18), 1);
        due("none", d.t.many(4, 20), 0);
        due("2 to the power of 19", d.t.many(5, 20), 524288);
        due("many(5, 0)", d.t.many(5, 0), 0);
        due("u", d.t.many(0, 0), 1);
        due("texts", d.texts(5, 8), "a.ab.ac.abb.abc.acb.acc.abbb.");
        due("text 20", d.text(4, 20), "a".repeat(180));
        due("text 20 of ALL", d.text(7, 20), "acb");
        due("behind its end", d.t.text(4, 20, 180), NONE);
        due("far behind", d.t.text(4, 20, Integer.MAX_VALUE), NONE);
        due("letter", d.t.text(5, 6, 2), 'c');
        due("fewer", d.t.text(0, 1, 0), FEWER);
        due("fewer", d.t.text(0, 20, 5), FEWER);
        due("the empty text", d.t.text(0, 0, 0), NONE);
        for (int far : FAR) {
            due("v", d.t.many(far, 0), BAD);
            due("n", d.t.many(4, far), BAD);
            due("v", d.t.text(far, 0, 0), BAD);
            due("k", d.t.text(4, far, 0), BAD);
        }
        due("n", d.t.many(4, 21), BAD);
        due("k", d.t.text(4, 21, 0), BAD);
        due("i", d.t.text(4, 0, -1), BAD);
        d.program("#u2{}");
        due("no", d.t.many(0, 0), NO);
        due("no", d.t.text(0, 0, 0), NO);
        due("bad comes before no", d.t.many(0, 21), BAD);
        due("bad comes before no", d.t.text(0, 0, -1), BAD);
    }

    private static void holdsAndWithin() {
        Desk d = start("10, holds, and 11, within");
        d.pattern(0, "(ab)*");
        d.pattern(1, "(abab)*");
        due("abab", d.holds(4, "abab"), 1);
        due("a b", d.holds(4, " a b "), 1);
        due("empty", d.holds(4, ""), 1);
        due("aba", d.holds(4, "aba"), 0);
        due("the buffer stays", d.t.told(5), 3);
        due("fault", d.holds(4, "ab d."), -13);
        due("fault", d.holds(0, "A"), -10);
        due("120 letters", d.holds(4, "ab".repeat(60)), 1);
        due("v", d.t.holds(8), BAD);
        due("v", d.t.holds(-1), BAD);
        due("within", d.t.within(5, 4), 1);
        due("within", d.t.within(4, 5), 0);
        due("within", d.t.within(0, 5), 1);
        due("within itself", d.t.within(4, 4), 1);
        due("ALL", d.t.within(7, 4), 0);
        due("v", d.t.within(8, 0), BAD);
        due("w", d.t.within(0, -1), BAD);
        d.program("#u2{}");
        due("no", d.t.within(0, 4), NO);
        due("no", d.t.within(4, 0), NO);
        due("no", d.holds(3, "a"), NO);
        due("no comes before a fault", d.holds(3, "?"), NO);
        due("a fault", d.holds(4, "?"), -10);
        due("bad comes before no", d.t.within(0, 8), BAD);
        due("told(1)", d.t.told(1), 4);
    }

    private static void alarms() {
        Desk d = start("12, alarms, 13, alarm, and 14, raised");
        d.pattern(0, ".*b.*");
        d.pattern(1, "c");
        due("program", d.program(" !u0;*{u=u'a';+{u=u'b';}{}} ! u0;!v1;#v2{!u0;}"), 9);
        due("alarms", d.t.alarms(), 4);
        long[][] want = {{0, 1, NONE}, {1, 28, 2}, {0, 33, NONE}, {1, 41, 2}};
        for (int j = 0; j < 4; j++) {
            for (int what = 0; what < 3; what++) {
                due("alarm(" + j + ", " + what + ")", d.t.alarm(j, what), want[j][what]);
            }
        }
        due("raised", d.raised(1), "ab");
        due("raised", d.t.raised(1, 2), NONE);
        due("raised", d.t.raised(1, Integer.MAX_VALUE), NONE);
        due("not raised", d.t.raised(0, 0), NONE);
        for (int far : FAR) {
            due("j", d.t.alarm(far, 0), BAD);
            due("j", d.t.raised(far, 0), BAD);
            due("what", d.t.alarm(0, far), BAD);
        }
        due("j", d.t.alarm(4, 0), BAD);
        due("j", d.t.raised(4, 0), BAD);
        due("i", d.t.raised(1, -1), BAD);
        due("what", d.t.alarm(0, 3), BAD);
        smallestOfAllTimes();
        exactAlarm();
    }

    private static void smallestOfAllTimes() {
        Desk d = start("3, the smallest text of an alarm");
        d.pattern(0, ".*");
        d.program("u='bb';*{!u0;u='ac';}");
        due("of two of equal length the first one", d.raised(0), "ac");
        d.program("u='ca';*{!u0;u='b';}");
        due("the shorter one", d.raised(0), "b");
        d.program("u='b';*{!u0;u='aa';}");
        due("the first time", d.raised(0), "b");
        d.program("u='';!u0;");
        due("the empty text", d.t.alarm(0, 2), 0);
        due("the empty text", d.t.raised(0, 0), NONE);
        d.program("#u0{!u0;}!u0;");
        due("reached", d.t.alarm(0, 0), 1);
        due("not reached", d.t.alarm(1, 0), 0);
    }

    private static void exactAlarm() {
        Desk d = start("3, alarms are exact");
        d.pattern(0, "(..........)*");
        d.pattern(1, "(.........)*");
        d.pattern(2, ".");
        d.program("u=02;!u1;");
        due("ten times eight and one is nine times nine", d.raised(0), "a".repeat(81));
        d.program("!u0;".repeat(30));
        due("thirty alarms", d.t.alarms(), 30);
        due("the last one", d.t.alarm(29, 1), 116);
        due("the last one", d.t.alarm(29, 2), 0);
    }

    private static void counts() {
        Desk d = start("15, count, and section 3");
        due("no loops", d.t.count(1) + d.t.count(2) + d.t.count(3), 0);
        d.program("u='a';*{u=u'b';}");
        due("rounds", d.t.count(1), 3);
        due("texts", d.texts(0, 4), "a.ab.abb.abbb.");
        d.t.sets(0, 5);
        due("rounds", d.t.count(1), 7);
        d.t.sets(1, 0);
        due("K = 0: what is no end is similar", d.t.value(0, 0), 2);
        due("K = 0", d.texts(0, 6), "a.aa.ab.ba.ca.aaa.");
        d.t.sets(0, 0);
        due("rounds", d.t.count(2), 2);
        d.pattern(0, "a?a?");
        d.program("#u0{u=u'a';}");
        d.t.sets(0, 5);
        due("rounds", d.t.count(1), 4);
        due("behind the loop", d.texts(0, 4), "aaa.");
        d.program("*{*{u='a';}}*{}");
        due("rounds", d.t.count(1), 6);
        due("most", d.t.count(2), 2);
        for (int far : FAR) {
            due("what", d.t.count(far), BAD);
        }
        due("what", d.t.count(4), BAD);
        d.program("#u1{}u='a';*{}!u0;");
        due("impossible", d.t.count(3), 1);
        due("no loop is iterated then", d.t.count(1), 1);
        due("no alarm is looked at then", d.t.alarm(0, 0), 0);
        patience();
        largeResults();
    }

    private static void patience() {
        Desk d = start("3, twenty rounds");
        d.pattern(3, "(....)*.");
        d.program("*{?x3{y=x'b';}{y=x'';y/bc;y/ab;y='a'y;}x=v;v=u;u=y;}");
        d.t.sets(0, 0);
        // With ALL from the 20th or 22nd round on it would be 23 or 25 rounds.
        due("most rounds", d.t.count(2), 24);
        due("ALL", d.t.value(0, 3) + d.t.value(1, 3) + d.t.value(2, 3) + d.t.value(3, 3), 4);
    }

    private static void largeResults() {
        Desk d = start("1, languages above ten states");
        d.pattern(0, "(.....)*");
        d.pattern(1, "(....)*");
        d.pattern(2, "(...)*");
        d.program("u=0;?u1{v=u;}{x=u;}y=0;+{y=2;}{}");
        due("BOTH is the first operand then, and so is LESS", d.t.value(0, 0), 5);
        due("JOIN is ALL then", d.t.value(3, 3), 1);
        d.program("u='abcab''cabc';v='abcab''cab';");
        due("CHAIN is ALL then", d.t.value(0, 3), 1);
        due("CHAIN", d.text(1, 0), "abcabcab");
        d.pattern(3, "(ab|c)*");
        d.program("u=3;u/c-;v=3;v/ca;x=3;x/bb;y=3;y/b-;");
        due("removed", d.texts(0, 3), ".ab.abab.");
        due("replaced", d.texts(1, 5), ".a.aa.ab.aaa.");
        due("by itself", d.texts(2, 4), ".c.ab.cc.");
        due("removed", d.texts(3, 4), ".a.c.aa.");
        d.program("u='aab';u/a-;v='aa';v/a-;");
        due("removed at the beginning", d.texts(0, 2) + d.texts(1, 2), "b..");
    }

    private static void steps() {
        Desk d = start("16, runs");
        due("empty program", d.t.runs(0), 0);
        d.pattern(0, "a?a?a?");
        d.pattern(1, "b");
        due("program", d.program("#u0{u=u'a';}?u1{}{v='b';}!v1;v/bc;!v1;"), 7);
        due("five tests, four letters, and five more", d.t.runs(999999), 14);
        due("u", d.ran(0), "aaaa");
        due("v", d.ran(1), "c");
        due("rang", d.t.rang(), 1);
        for (int far : FAR) {
            due("seed", d.t.runs(far), far == 1000 ? 14 : BAD);
        }
        due("seed", d.t.runs(1000000), BAD);
        d.program("#u2{v='a';!v2;}");
        due("too many steps", d.t.runs(1), LOST);
        due("kept", d.ran(0) + d.ran(1), "aaaac");
        due("kept", d.t.rang(), 1);
        d.program("x='c';".repeat(20));
        due("twenty", d.t.runs(1), 20);
        hundredSteps();
        fortyLetters();
    }

    private static void hundredSteps() {
        Desk d = start("16, hundred steps");
        d.pattern(0, "(a(a(a)?)?)?");
        d.program("#u0{u=u'a';" + "v=v;".repeat(20) + "}" + "v=v;".repeat(5));
        due("4 tests and 1, 4 times 21, and 5", d.t.runs(0), 94);
        d.program("#u0{u=u'a';" + "v=v;".repeat(15) + "#v3{}" + "}");
        due("a loop that never begins counts one step", d.pattern(3, "b"), 3);
        due("4 tests and 1, 4 times 17", d.t.runs(0), 73);
        nearHundred();
    }

    private static void nearHundred() {
        Desk d = start("16, nearly a hundred steps");
        d.pattern(0, "(a(a(a)?)?)?");
        d.pattern(3, "b");
        d.program("#u0{u=u'a';" + "v=v;".repeat(21) + "}" + "v=v;".repeat(5));
        due("98", d.t.runs(0), 98);
        d.program("#u0{u=u'a';" + "v=v;".repeat(21) + "}" + "v=v;".repeat(5) + "!u0;");
        due("99", d.t.runs(0), 99);
        d.program("#u0{u=u'a';" + "v=v;".repeat(21) + "}" + "v=v;".repeat(4) + "#v3{}x=v;");
        due("99", d.t.runs(0), 99);
        d.program("#u0{u=u'a';" + "v=v;".repeat(20) + "?v3{}{}}" + "v=v;".repeat(5));
        due("98", d.t.runs(0), 98);
        hundredAndOne();
    }

    private static void hundredAndOne() {
        Desk d = start("16, the 101st step");
        d.pattern(0, "(a(a(a)?)?)?");
        d.pattern(3, "b");
        d.program("#u0{u=u'a';" + "v=v;".repeat(22) + "}!u0;!u0;!u0;");
        due("100", d.t.runs(0), 100);
        d.program("#u0{u=u'a';" + "v=v;".repeat(22) + "}!u0;!u0;!u0;!u0;");
        due("101", d.t.runs(0), LOST);
        d.program("#u0{u=u'a';" + "v=v;".repeat(22) + "}!u0;!u0;!u0;#v3{}");
        due("101", d.t.runs(0), LOST);
    }

    private static void fortyLetters() {
        Desk d = start("16, forty letters");
        d.program("u='abcabcabca';v=uuuu;");
        due("forty", d.t.runs(5), 2);
        due("forty", d.ran(1), "abcabcabca".repeat(4));
        due("behind them", d.t.ran(1, 40), NONE);
        due("caught: ALL has them", d.t.caught(), 15);
        d.program("u='abcabcabca';v=uuuu'a';");
        due("one more", d.t.runs(5), LOST);
        due("kept", d.ran(1).length(), 40);
        d.program("u='abcabcabca';v=uuuu;v/a-;v=v'';");
        due("removed", d.t.runs(5), 4);
        due("removed", d.ran(1), "bcbcbc".repeat(4));
        longTexts();
    }

    private static void longTexts() {
        Desk d = start("16, long texts");
        d.pattern(0, "(aaaaaaaaa)*");
        d.program("u=0;");
        int lost = 0;
        for (int seed = 0; seed < 200; seed++) {
            lost += d.t.runs(seed) == LOST ? 1 : 0;
        }
        due("long texts of a pattern are lost: 45 to 63 letters", lost > 50 && lost < 110 ? 1 : 0, 1);
    }

    /** The generator once more, so that the draws can be followed. */
    private static int[] drawn(long seed, int... below) {
        long x = seed;
        int[] out = new int[below.length];
        for (int i = 0; i < below.length; i++) {
            x = (x * 1103515245L + 12345L) % 2147483648L;
            out[i] = (int) (x / 65536 % below[i]);
        }
        return out;
    }

    private static void draws() {
        Desk d = start("16, draws");
        d.pattern(0, "a|b|c|aa|bb");
        d.pattern(1, "a*");
        d.program("u=0;v=1;+{x='a';}{x='b';}y=0 0;");
        String[] five = {"a", "b", "c", "aa", "bb"};
        for (int seed = 0; seed < 60; seed += 7) {
            int[] n = drawn(seed, 5, 8, 2, 5, 5);
            due("steps", d.t.runs(seed), 5);
            due("u", d.ran(0), five[n[0]]);
            due("v", d.ran(1), "a".repeat(n[1]));
            due("x", d.ran(2), n[2] == 0 ? "a" : "b");
            due("y", d.ran(3), five[n[3]] + five[n[4]]);
        }
        d.pattern(2, "");
        d.program("u=2;v=1;*{x=x'a';}");
        for (int seed = 1; seed < 60; seed += 9) {
            int[] n = drawn(seed, 1, 8, 3, 3, 3, 3, 3, 3, 3, 3, 3, 3, 3, 3, 3, 3, 3, 3, 3, 3, 3, 3, 3, 3, 3, 3, 3, 3);
            int rounds = 0;
            while (n[2 + rounds] != 0) {
                rounds++;
            }
            due("steps", d.t.runs(seed), 3 + 2 * rounds);
            due("also one text is drawn", d.ran(1), "a".repeat(n[1]));
            due("x", d.ran(2), "a".repeat(rounds));
        }
        d.pattern(1, "b");
        due("the present patterns count", d.t.runs(1) > 0 ? 1 : 0, 1);
        due("v", d.ran(1), "b");
    }

    private static void runResults() {
        Desk d = start("17, ran, 18, caught, and 19, rang");
        due("none yet", d.t.ran(3, 0), NONE);
        for (int far : FAR) {
            due("v", d.t.ran(far, 0), BAD);
        }
        due("v", d.t.ran(4, 0), BAD);
        due("i", d.t.ran(0, -1), BAD);
        due("i", d.t.ran(0, Integer.MAX_VALUE), NONE);
        d.pattern(0, "b");
        d.program("u='a';v='b';!v0;!v0;!u0;");
        due("before a run", d.t.caught(), 12);
        d.t.runs(3);
        due("rang", d.t.rang(), 2);
        due("caught", d.t.caught(), 15);
        due("letter", d.t.ran(1, 0), 'b');
        d.program("u='a';");
        due("by the present analysis", d.t.caught(), 13);
        due("of that run", d.t.rang(), 2);
        d.program("#u1{}");
        due("impossible", d.t.caught(), 0);
    }

    private static void backs() {
        Desk d = start("20, back");
        due("none", d.t.back(), NO);
        d.pattern(1, "a");
        d.program("u='b';!u1;");
        d.t.sets(0, 3);
        d.t.sets(1, 0);
        d.t.runs(1);
        due("back", d.t.back(), 3);
        due("K", d.t.told(4), 1);
        due("DELAY", d.t.told(3), 3);
        due("back", d.t.back(), 2);
        due("DELAY", d.t.told(3), 1);
        due("u", d.texts(0, 2), "b.");
        due("back", d.t.back(), 1);
        due("alarms", d.t.alarms(), 0);
        due("u", d.texts(0, 2), ".");
        due("pattern", d.t.value(5, 0), 3);
        due("back", d.t.back(), 0);
        due("pattern", d.t.value(5, 3), 1);
        due("back", d.t.back(), NO);
        due("told(1)", d.t.told(1), 2);
        due("the buffer stays", d.t.told(5), 10);
        due("the run stays", d.ran(0), "b");
        for (int i = 0; i < 9; i++) {
            d.t.sets(0, i % 6);
        }
        due("six are remembered", d.t.told(6), 6);
        for (int i = 5; i >= 0; i--) {
            due("back", d.t.back(), i);
            due("DELAY", d.t.told(3), (i + 2) % 6);
        }
        due("back", d.t.back(), NO);
    }

    private static void digests() {
        Desk d = start("22, digest");
        d.pattern(0, "ab*");
        d.program("u=0;!u0;*{u=u'c';}!v0;");
        d.t.runs(12);
        d.t.value(9, 9);
        due("digest", d.t.digest(), byHand(d));
        d.program(IMPOSSIBLE.replace('0', '1'));
        d.t.value(0, 0);
        due("digest of an impossible state", d.t.digest(), byHand(d));
        due("a digest changes nothing", d.t.digest(), byHand(d));
        due("a new object", new TextValues().digest(), byHand(start("22, digest")));
    }

    private static long byHand(Desk d) {
        long h = 1815;
        for (int i = 0; i <= 6; i++) {
            h = 31 * h + d.t.told(i);
        }
        for (int i = 0; i <= 3; i++) {
            h = 31 * h + d.t.count(i);
        }
        for (int v = d.t.count(3) == 1 ? 4 : 0; v < 8; v++) {
            for (int i = 0; i <= 4; i++) {
                h = 31 * h + d.t.value(v, i);
            }
        }
        for (int j = 0; j < d.t.alarms(); j++) {
            for (int i = 0; i <= 2; i++) {
                h = 31 * h + d.t.alarm(j, i);
            }
        }
        h = 31 * h + d.t.caught();
        return 31 * h + d.t.rang();
    }

    private static void refusalsChangeNothing() {
        Desk d = start("RETURN VALUES");
        d.pattern(0, "a*b");
        d.program("u=0;*{u=u'c';}!u0;");
        d.t.runs(4);
        d.write("?");
        long before = rest(d);
        d.t.type(200);
        d.t.pattern(7);
        d.t.pattern(0);
        d.t.program();
        d.t.holds(0);
        d.t.sets(0, 9);
        d.t.runs(-1);
        d.t.alarm(1, 0);
        due("all the rest is as it was", rest(d), before);
        due("told(0)", d.t.told(0), 5);
        due("told(5)", d.t.told(5), 1);
    }

    private static long rest(Desk d) {
        long h = 0;
        for (int i = 1; i <= 6; i++) {
            h = 31 * h + d.t.told(i);
        }
        for (int v = 0; v < 8; v++) {
            h = 31 * h + (d.texts(v, 5) + d.ran(v % 4)).hashCode();
        }
        return 31 * (31 * h + d.t.count(1)) + d.t.rang();
    }
}
