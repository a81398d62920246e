/** The promises 1 to 11: what is written, and what languages answer. */
final class LanguagePromises extends Cases {
    private static final int[] FAR = {LEAST, -1000, -1, 1 << 20, GREATEST};

    private LanguagePromises() {
    }

    static void all(Sentences s) {
        newAndType(s);
        patternAndProgram(s);
        sets(s);
        value(s);
        many(s);
        text(s);
        holds(s);
        within(s);
    }

    private static void newAndType(Sentences s) {
        s.in("Promise 1: A new object");
        s.plain("`TextValues()`");
        s.of("Creates an object with an empty program,", d -> newProgram(d));
        s.of("all patterns ALL,", d -> newPatterns(d));
        s.of("DELAY and K 1,", d -> due("DELAY and K", d.t.told(3) + d.t.told(4) * 10, 11));
        s.of("and an empty text buffer.", d -> newBuffer(d));
        s.in("Promise 2: type");
        s.plain("`int type(int c)`");
        s.of("Appends a byte to the text buffer.", d -> appends(d));
        s.of("@return how many bytes it has then;", d -> howMany(d));
        s.of("BAD if c is not 0 to 127;", d -> badByte(d));
        s.of("FULL if it has 120.", d -> fullBuffer(d));
        s.in("Promise 3: clear");
        s.plain("`int clear()`");
        s.of("Empties the text buffer.", d -> empties(d));
        s.of("@return how many bytes it had.", d -> howManyHad(d));
    }

    private static void newProgram(Desk d) {
        due("statements", d.t.count(0), 0);
        due("alarms", d.t.alarms(), 0);
        due("rounds", d.t.count(1) + d.t.count(2), 0);
        due("impossible", d.t.count(3), 0);
        due("steps", d.t.runs(0), 0);
        due("none remembered", d.t.told(6), 0);
        due("no refusals", refusals(d), "0 0 0");
        for (int v = 0; v < 4; v++) {
            due("the language " + v, d.texts(v, 2), ".");
        }
    }

    private static void newPatterns(Desk d) {
        for (int v = 4; v < 8; v++) {
            due("ALL", d.t.value(v, 3), 1);
            due("many", d.t.many(v, 3), 27);
        }
        due("another object has its own", withPattern("a").t.value(4, 0) * 10 + d.t.value(4, 0), 31);
    }

    private static void newBuffer(Desk d) {
        due("bytes", d.t.told(5), 0);
        due("cleared", d.t.clear(), 0);
        due("the first byte", d.t.type('a'), 1);
    }

    private static void appends(Desk d) {
        d.t.type('c');
        d.t.type('a');
        due("the first one comes first", d.t.pattern(0), 4);
        due("text", d.texts(4, 2), "ca.");
        d.t.type('b');
        d.t.pattern(0);
        due("behind the others", d.texts(4, 2), "cab.");
    }

    private static void howMany(Desk d) {
        for (int i = 1; i <= 120; i++) {
            due("bytes", d.t.type(i), i);
            due("told", d.t.told(5), i);
        }
    }

    private static void badByte(Desk d) {
        due("0", d.t.type(0), 1);
        due("127", d.t.type(127), 2);
        due("128", d.t.type(128), BAD);
        due("-1", d.t.type(-1), BAD);
        due("97 + 256", d.t.type(97 + 256), BAD);
        for (int far : FAR) {
            due("far", d.t.type(far), BAD);
        }
        due("bytes", d.t.told(5), 2);
        due("0 is kept", new Desk().pattern(0, "a\0"), -11);
        due("127 is kept", new Desk().pattern(0, "a\177"), -11);
    }

    private static void fullBuffer(Desk d) {
        d.write("a".repeat(119));
        due("the last one", d.t.type('b'), 120);
        due("too many", d.t.type('c'), FULL);
        due("again", d.t.type('c'), FULL);
        due("bytes", d.t.told(5), 120);
        due("not put in the place of another", d.holds(4, "a"), 1);
        d.write("a".repeat(119) + "b");
        d.t.type('?');
        due("not put in the place of another", d.t.holds(4), 1);
    }

    private static void empties(Desk d) {
        d.pattern(0, "abc");
        d.t.clear();
        due("bytes", d.t.told(5), 0);
        due("the empty pattern", d.t.pattern(0), 2);
        due("what comes then is alone", d.t.type('b') * 10 + d.t.pattern(0), 13);
        due("text", d.texts(4, 2), "b.");
    }

    private static void howManyHad(Desk d) {
        due("none", d.t.clear(), 0);
        d.t.type('a');
        due("one", d.t.clear(), 1);
        d.write(" ".repeat(120));
        due("120", d.t.clear(), 120);
        due("none again", d.t.clear(), 0);
    }

    private static void patternAndProgram(Sentences s) {
        s.in("Promise 4: pattern");
        s.plain("`int pattern(int i)`");
        s.of("Makes pattern i the one that the text buffer describes;", d -> makesPattern(d));
        s.of("the buffer stays.", d -> patternBuffer(d));
        s.of("@return the size of its language (1 if it has become ALL);", d -> patternSize(d));
        s.of("BAD if i is not 0 to 3;", d -> badPattern(d));
        s.of("-10 minus the fault position if the buffer is no pattern.", d -> patternFault(d));
        s.in("Promise 5: program");
        s.plain("`int program()`");
        s.of("Makes the program the one that the text buffer describes;", d -> makesProgram(d));
        s.of("the buffer stays.", d -> programBuffer(d));
        s.of("@return the number of its statements, those inside of others included;", d -> statements());
        s.of("-10 minus the fault position if the buffer is no program.", d -> programFault(d));
    }

    private static void makesPattern(Desk d) {
        for (int i = 0; i < 4; i++) {
            d.pattern(i, "abc.".substring(i, i + 1));
        }
        due("each", d.texts(4, 2) + d.texts(5, 2) + d.texts(6, 2) + d.texts(7, 4), "a.b.c.a.b.c.");
        d.pattern(1, "aa");
        due("in place of the old one", d.texts(4, 2) + d.texts(5, 2) + d.texts(6, 2), "a.aa.c.");
        for (String faulty : new String[] {"(a", "(a*", "((b|c)", "a|(.", "aaaaaaaaaaa", "a)", "a*b**"}) {
            d.pattern(0, faulty);
            due("not with what was read before: " + faulty, d.pattern(0, "b?"), 3);
            due("texts", d.texts(4, 4), ".b.");
        }
    }

    private static void patternBuffer(Desk d) {
        due("pattern 0", d.pattern(0, " ab"), 4);
        due("bytes", d.t.told(5), 3);
        due("pattern 1", d.t.pattern(1), 4);
        due("the same", d.t.within(4, 5) + d.t.within(5, 4), 2);
        d.write("a)");
        due("a fault", d.t.pattern(0), -11);
        due("bytes", d.t.told(5), 2);
        due("a fault", d.t.pattern(0), -11);
    }

    private static void patternSize(Desk d) {
        due("the empty text", d.pattern(0, ""), 2);
        due("ALL", d.pattern(0, ".*"), 1);
        due("ten", d.pattern(0, "abcabcab"), 10);
        due("become ALL", d.pattern(0, "abcabcabc"), 1);
        due("it is", d.t.value(4, 3), 1);
        due("three", d.pattern(0, "a|b|c"), 3);
    }

    private static void badPattern(Desk d) {
        d.write("a");
        due("0", d.t.pattern(0), 3);
        due("3", d.t.pattern(3), 3);
        due("4", d.t.pattern(4), BAD);
        for (int far : FAR) {
            due("far", d.t.pattern(far), BAD);
        }
        due("none is remembered", d.t.told(6), 2);
        d.write("*");
        due("also if the buffer is no pattern", d.t.pattern(4), BAD);
        due("counted", refusals(d), "7 0 0");
    }

    private static void patternFault(Desk d) {
        String[] faulty = {"*", ")", "a**", "(", "(a|b", "u=v;", "aaaaaaaaaaa", "a|b)c", " ? ", "a0", "(()", "a#"};
        int[] places = {0, 0, 2, 1, 4, 0, 10, 3, 1, 1, 3, 1};
        for (int i = 0; i < faulty.length; i++) {
            due(faulty[i], d.pattern(0, faulty[i]), -10 - places[i]);
        }
        due("it stays ALL", d.t.value(4, 3), 1);
        due("none is remembered", d.t.told(6), 0);
    }

    private static void makesProgram(Desk d) {
        d.program("u='a';!u0;");
        due("text", d.texts(0, 2), "a.");
        due("alarms", d.t.alarms(), 1);
        d.program("v='b';");
        due("in place of the old one", d.texts(0, 2) + d.texts(1, 2), ".b.");
        due("alarms", d.t.alarms(), 0);
        d.program("");
        due("none", d.texts(0, 2) + d.texts(1, 2), "..");
        String parts = "uvx".repeat(18);
        for (String faulty : new String[] {"u=" + parts, "*{*{u='a';", "!u0;!u0;!", "u='aaaaaaaa"}) {
            d.program(faulty);
            due("not with what was read before", d.program("!u0;v='c';y=v" + parts.substring(1, 3) + "'b'v;"), 3);
            due("text", d.texts(3, 2), "ccbc.");
            due("alarms", d.t.alarms(), 1);
            due("run", d.t.runs(0), 3);
            due("text", d.ran(3), "ccbc");
        }
        manyPrograms();
    }

    private static void manyPrograms() {
        Desk d = new Desk();
        for (int i = 0; i < 4; i++) {
            due("a long one", d.program("x='c';u=" + "v".repeat(80) + "x'" + "abc".charAt(i % 3) + "';"), 2);
            due("text", d.texts(0, 2), "c" + "abc".charAt(i % 3) + ".");
        }
    }

    private static void programBuffer(Desk d) {
        due("program", d.program(" *{}"), 1);
        due("bytes", d.t.told(5), 4);
        due("again", d.t.program(), 1);
        due("no program", d.program("*{"), -12);
        due("bytes", d.t.told(5), 2);
        due("what it lacks", d.t.type('}') * 10 + d.t.program(), 31);
    }

    private static void statements() {
        String[] programs = {"", "u=v;", "u/ab;", "!u0;", "?u0{}{}", "#u0{}", "+{}{}", "*{}", "*{u=v;}",
            "?u0{u=v;}{v=u;!u0;}", "*{*{*{*{*{u='a';}}}}}", "+{u=v;}{+{}{u=v;u=v;}}", "*{}".repeat(40)};
        int[] numbers = {0, 1, 1, 1, 1, 1, 1, 1, 2, 4, 6, 5, 40};
        for (int i = 0; i < programs.length; i++) {
            due(programs[i], asProgram(programs[i]), numbers[i]);
        }
    }

    private static void programFault(Desk d) {
        d.program("u='a';");
        String[] faulty = {"a", "u", "u=;", "u='d';", "!u4;", "?u0{}", "#u0", "*{", "}", "u=v;;", "u/abc;",
            "*{*{*{*{*{*{}}}}}}"};
        int[] places = {0, 1, 2, 3, 2, 5, 3, 2, 0, 4, 4, 11};
        for (int i = 0; i < faulty.length; i++) {
            due(faulty[i], d.program(faulty[i]), -10 - places[i]);
        }
        due("the old one stays", d.texts(0, 2), "a.");
        due("only the first one is remembered", d.t.told(6), 1);
    }

    private static void sets(Sentences s) {
        s.in("Promise 6: sets");
        s.plain("`int sets(int what, int v)`");
        s.of("Sets DELAY (what = 0; v is 0 to 5)", d -> setsDelay(d));
        s.of("or K (what = 1; v is 0 or 1).", d -> setsK(d));
        s.of("@return the value before the call;", d -> valueBefore(d));
        s.of("BAD if what is not 0 or 1,", d -> badWhat(d));
        s.of("or if v is out of range.", d -> badSetting(d));
    }

    private static void setsDelay(Desk d) {
        d.program("u='a';*{u=u'b';}");
        for (int v = 0; v <= 5; v++) {
            due("no refusal", d.t.sets(0, v) >= 0 ? 1 : 0, 1);
            due("DELAY", d.t.told(3), v);
            due("K stays", d.t.told(4), 1);
            due("rounds", d.t.count(1), v == 0 ? 3 : v + 2);
        }
    }

    private static void setsK(Desk d) {
        d.program("u='a';*{u=u'b';}");
        due("K", d.t.sets(1, 0) * 10 + d.t.told(4), 10);
        due("K = 0: text 1", d.text(0, 1), "aa");
        due("K", d.t.sets(1, 1) * 10 + d.t.told(4), 1);
        due("K = 1: text 1", d.text(0, 1), "ab");
        due("DELAY stays", d.t.told(3), 1);
        d.t.sets(0, 4);
        due("K", d.t.sets(1, 0), 1);
        due("DELAY stays", d.t.told(3), 4);
        due("rounds", d.t.count(1), 6);
    }

    private static void valueBefore(Desk d) {
        due("DELAY at first", d.t.sets(0, 5), 1);
        due("DELAY", d.t.sets(0, 0), 5);
        due("DELAY", d.t.sets(0, 0), 0);
        due("DELAY", d.t.sets(0, 3), 0);
        due("K at first", d.t.sets(1, 1), 1);
        due("K", d.t.sets(1, 0), 1);
        due("K", d.t.sets(1, 1), 0);
        due("DELAY", d.t.sets(0, 1), 3);
    }

    private static void badWhat(Desk d) {
        due("-1", d.t.sets(-1, 0), BAD);
        due("2", d.t.sets(2, 0), BAD);
        for (int far : FAR) {
            due("far", d.t.sets(far, 1), BAD);
        }
        due("none is remembered", d.t.told(6), 0);
    }

    private static void badSetting(Desk d) {
        due("DELAY -1", d.t.sets(0, -1), BAD);
        due("DELAY 6", d.t.sets(0, 6), BAD);
        due("K -1", d.t.sets(1, -1), BAD);
        due("K 2", d.t.sets(1, 2), BAD);
        due("K 5", d.t.sets(1, 5), BAD);
        for (int far : FAR) {
            due("far", d.t.sets(0, far) + d.t.sets(1, far), 2 * BAD);
        }
        due("as they were", d.t.told(3) * 10 + d.t.told(4), 11);
        due("none is remembered", d.t.told(6), 0);
    }

    private static void value(Sentences s) {
        s.in("Promise 7: value");
        s.plain("`int value(int v, int what)` Describes a language.");
        s.of("- `v`: 0 to 3: the language of this variable behind the program;", d -> variableValue());
        s.of("4 to 7: pattern v - 4.", d -> patternValue(d));
        s.of("- `what`: 0: its size;", d -> size(d));
        s.of("1: the smallest length of its texts;", d -> shortest(d));
        s.of("2: the greatest length,", d -> longest(d));
        s.of("ENDLESS if there is none;", d -> endless(d));
        // No call can show it: each pattern has a text, and a state with NOTHING is impossible.
        s.plain("1 and 2 are NONE if it is NOTHING;");
        s.of("3: 1 if it is ALL, else 0;", d -> isAll(d));
        s.of("4: 1 if it is NOTHING, else 0.", d -> isNothing(d));
        s.plain("Returns that;");
        s.of("BAD if v or what is out of range;", d -> badValue(d));
        s.of("NO if v is a variable, and the state behind the program is impossible.", d -> noValue(d));
    }

    private static void variableValue() {
        Desk d = withProgram("u='a';v='ab';x='abc';y='abca';u='';");
        due("u", d.t.value(0, 1), 0);
        due("v", d.t.value(1, 1), 2);
        due("x", d.t.value(2, 1), 3);
        due("y", d.t.value(3, 1), 4);
    }

    private static void patternValue(Desk d) {
        for (int i = 0; i < 4; i++) {
            d.pattern(i, "a".repeat(i + 1));
        }
        for (int v = 4; v < 8; v++) {
            due("pattern " + (v - 4), d.t.value(v, 1), v - 3);
        }
    }

    private static void size(Desk d) {
        due("ALL", d.t.value(4, 0), 1);
        due("the empty text", d.t.value(0, 0), 2);
        d.pattern(0, "abcabcab");
        due("ten", d.t.value(4, 0), 10);
    }

    private static void shortest(Desk d) {
        String[] patterns = {"", ".*", "a", "ab?c", "a|bbb", "aaaaaaaa", "(........)*.", "aa(bbb)*", "(..........)*"};
        int[] lengths = {0, 0, 1, 2, 1, 8, 1, 2, 0};
        for (int i = 0; i < patterns.length; i++) {
            d.pattern(0, patterns[i]);
            due(patterns[i], d.t.value(4, 1), lengths[i]);
        }
        Desk e = withProgram("u='aaaaaaaa';v=0'a';", "(..)*...*.*.*");
        due("eight", e.t.value(0, 1), 8);
        due("three", e.t.value(1, 1), 3);
        e = withProgram("u=0;?u1{#x3{}}{}", ".*", ".?.?.?.?.?.?.?.?");
        due("nine: texts of at least nine letters", e.t.value(0, 1), 9);
        due("size", e.t.value(0, 0), 10);
    }

    private static void longest(Desk d) {
        String[] patterns = {"", "a", "ab?c", "a|bbb", "aaaaaaaa", "a?b?c?", "((a?b?)?)?"};
        int[] lengths = {0, 1, 3, 3, 8, 3, 2};
        for (int i = 0; i < patterns.length; i++) {
            d.pattern(0, patterns[i]);
            due(patterns[i], d.t.value(4, 2), lengths[i]);
        }
        due("of a variable", d.t.value(0, 2), 0);
    }

    private static void endless(Desk d) {
        String[] patterns = {".*", "a*", "ab*c", "(.........)*", "(..........)*", "aaaaaaa*", "a|b|(ccc)*",
            "(aaaaaaaaa)*"};
        for (String p : patterns) {
            d.pattern(0, p);
            due(p, d.t.value(4, 2), 1000);
        }
        d.program("*{u=u'a';}");
        due("of a variable", d.t.value(0, 2), 1000);
        due("of ALL by size", d.pattern(0, "aaaaaaaaa") * 10000 + d.t.value(4, 2), 11000);
    }

    private static void isAll(Desk d) {
        due("at first", d.t.value(4, 3) + d.t.value(5, 3) + d.t.value(6, 3) + d.t.value(7, 3), 4);
        due("the empty text", d.t.value(0, 3), 0);
        String[] patterns = {"(a|b|c)*", "(a*b*c*)*", "|..*", "..*", "(a|b)*", ".*a.*", ""};
        int[] all = {1, 1, 1, 0, 0, 0, 0};
        for (int i = 0; i < patterns.length; i++) {
            d.pattern(0, patterns[i]);
            due(patterns[i], d.t.value(4, 3), all[i]);
        }
    }

    private static void isNothing(Desk d) {
        due("ALL", d.t.value(4, 4), 0);
        due("the empty text", d.t.value(0, 4), 0);
        d.pattern(0, "");
        due("the empty text", d.t.value(4, 4), 0);
        d.pattern(0, "a");
        due("a text", d.t.value(4, 4), 0);
        d.program("u='b';?u0{u='';}{}");
        due("NOTHING is joined away", d.t.value(0, 4), 0);
    }

    private static void badValue(Desk d) {
        due("v -1", d.t.value(-1, 0), BAD);
        due("v 0", d.t.value(0, 0), 2);
        due("v 7", d.t.value(7, 0), 1);
        due("v 8", d.t.value(8, 0), BAD);
        due("what -1", d.t.value(4, -1), BAD);
        due("what 4", d.t.value(4, 4), 0);
        due("what 5", d.t.value(4, 5), BAD);
        for (int far : FAR) {
            due("far", d.t.value(far, 0) + d.t.value(0, far) + d.t.value(far, far), 3 * BAD);
        }
        due("counted", refusals(d), "19 0 0");
    }

    private static void noValue(Desk d) {
        d.program(IMPOSSIBLE);
        for (int what = 0; what <= 4; what++) {
            due("a variable", d.t.value(0, what) + d.t.value(3, what), 2 * NO);
            due("a pattern", d.t.value(4, what) >= 0 ? 1 : 0, 1);
            due("a pattern", d.t.value(7, what) >= 0 ? 1 : 0, 1);
        }
        due("BAD comes first", d.t.value(0, 5), BAD);
        due("counted", refusals(d), "1 10 0");
    }

    private static void many(Sentences s) {
        s.in("Promise 8: many");
        s.plain("`long many(int v, int n)`");
        s.of("Returns how many texts of n letters a language has (v as for value());", d -> howManyTexts(d));
        s.of("BAD if v is out of range,", d -> badMany(d));
        s.of("or n is not 0 to 20;", d -> badLength(d));
        s.of("NO as for value().", d -> noMany(d));
    }

    private static void howManyTexts(Desk d) {
        d.pattern(0, "a(b|c)*");
        d.pattern(1, "ab|b|");
        d.pattern(2, "(..........)*");
        due("none", d.t.many(4, 0), 0);
        due("one", d.t.many(4, 1), 1);
        due("2 to the power of 19", d.t.many(4, 20), 524288);
        due("the empty text", d.t.many(5, 0), 1);
        due("one", d.t.many(5, 1), 1);
        due("one", d.t.many(5, 2), 1);
        due("none", d.t.many(5, 3) + d.t.many(5, 20), 0);
        due("3 to the power of 10", d.t.many(6, 10), 59049);
        due("none", d.t.many(6, 19), 0);
        due("more than an int", d.t.many(6, 20), 3486784401L);
        due("of ALL", d.t.many(7, 20), 3486784401L);
        due("of a variable", d.t.many(0, 0) * 10 + d.t.many(0, 1), 10);
        due("of ALL without the empty text", d.pattern(0, "..*") * 10 + d.t.many(4, 0), 20);
    }

    private static void badMany(Desk d) {
        due("-1", d.t.many(-1, 0), BAD);
        due("0", d.t.many(0, 0), 1);
        due("7", d.t.many(7, 0), 1);
        due("8", d.t.many(8, 0), BAD);
        for (int far : FAR) {
            due("far", d.t.many(far, 0), BAD);
        }
        due("counted", refusals(d), "7 0 0");
    }

    private static void badLength(Desk d) {
        due("-1", d.t.many(4, -1), BAD);
        due("0", d.t.many(4, 0), 1);
        due("20", d.t.many(4, 20), 3486784401L);
        due("21", d.t.many(4, 21), BAD);
        for (int far : FAR) {
            due("far", d.t.many(4, far), BAD);
        }
        due("counted", refusals(d), "7 0 0");
    }

    private static void noMany(Desk d) {
        d.program(IMPOSSIBLE);
        due("a variable", d.t.many(0, 0) + d.t.many(3, 20), 2 * NO);
        due("a pattern", d.t.many(4, 1), 3);
        due("BAD comes first", d.t.many(0, 21), BAD);
        due("counted", refusals(d), "1 2 0");
    }

    private static void text(Sentences s) {
        s.in("Promise 9: text");
        s.plain("`int text(int v, int k, int i)` Returns a letter of a text of a language.");
        s.of("- `v`: the language, as for value().", d -> textLanguage());
        s.of("- `k`: which text, 0 to 20; 0 is the smallest one of the language, 1 the next one, and so on.",
                d -> whichText(d));
        s.of("- `i`: which letter, from 0.", d -> whichLetter(d));
        s.of("Returns the code of the letter (97 for a);", d -> letterCode(d));
        s.of("NONE if the text has not so many letters;", d -> noLetter(d));
        s.of("FEWER if the language has not so many texts;", d -> fewerTexts(d));
        s.of("BAD if v or k is out of range,", d -> badText(d));
        s.of("or i is negative;", d -> badPlace(d));
        s.of("NO as for value().", d -> noText(d));
    }

    private static void textLanguage() {
        Desk d = withProgram("u='a';v='b';x='c';y='ab';", "ba", "bb", "bc", "ca");
        String[] texts = {"a", "b", "c", "ab", "ba", "bb", "bc", "ca"};
        for (int v = 0; v < 8; v++) {
            due("language " + v, d.text(v, 0), texts[v]);
        }
    }

    private static void whichText(Desk d) {
        d.pattern(0, "(aaaaaaaaa)*");
        due("the smallest", d.text(4, 0), "");
        due("the next one", d.text(4, 1), "a".repeat(9));
        due("the last one that can be asked for", d.text(4, 20), "a".repeat(180));
        due("of ALL: all of one letter and of two", d.text(7, 3) + "." + d.text(7, 4) + "." + d.text(7, 12), "c.aa.cc");
        due("of ALL: text 20", d.text(7, 20), "acb");
        d.pattern(1, "aaaa.*");
        due("behind four letters", d.text(5, 12) + "." + d.text(5, 20), "aaaacc.aaaaacb");
        d.pattern(2, "(c|b)(a|b|c)*");
        due("no text is left out", d.texts(6, 8), "b.c.ba.bb.bc.ca.cb.cc.");
        Desk e = withPattern("(..........)*");
        due("ten letters more", e.text(4, 0) + "." + e.text(4, 1) + "." + e.text(4, 20), ".aaaaaaaaaa.aaaaaaacab");
        e.pattern(1, ".........(.)*");
        due("the smallest has nine letters", e.text(5, 0) + "." + e.text(5, 20), "aaaaaaaaa.aaaaaacac");
        e.pattern(2, "(aaaaaaaa)*b");
        due("eight letters more", e.text(6, 20).length(), 161);
    }

    private static void whichLetter(Desk d) {
        d.pattern(0, "abcacb");
        for (int i = 0; i < 6; i++) {
            due("letter " + i, d.t.text(4, 0, i), "abcacb".charAt(i));
        }
    }

    private static void letterCode(Desk d) {
        due("a", d.t.text(4, 1, 0), 97);
        due("b", d.t.text(4, 2, 0), 98);
        due("c", d.t.text(4, 3, 0), 99);
    }

    private static void noLetter(Desk d) {
        due("of the empty text", d.t.text(4, 0, 0), NONE);
        due("behind one letter", d.t.text(4, 1, 1), NONE);
        due("behind two letters", d.t.text(4, 12, 2), NONE);
        due("the second letter is there", d.t.text(4, 12, 1), 'c');
        due("far behind", d.t.text(4, 12, GREATEST), NONE);
        due("far behind", d.t.text(4, 12, 1 << 20), NONE);
        due("no refusal", refusals(d), "0 0 0");
    }

    private static void fewerTexts(Desk d) {
        d.pattern(0, "a?a?a?");
        due("four texts", d.t.text(4, 3, 2), 'a');
        due("no fifth", d.t.text(4, 4, 0), FEWER);
        due("no fifth, whatever the letter", d.t.text(4, 4, GREATEST), FEWER);
        due("no 21st", d.t.text(4, 20, 0), FEWER);
        due("one text", d.t.text(0, 0, 0), NONE);
        due("no second", d.t.text(0, 1, 0), FEWER);
        d.pattern(1, "(a|b|c)(a|b|c)|.|");
        due("thirteen texts", d.text(5, 12), "cc");
        due("no fourteenth", d.t.text(5, 13, 0), FEWER);
        d.pattern(2, "..?.?");
        due("text 20 of 39", d.text(6, 20), "acc");
        d.pattern(2, "a?a?a?a?a?a?a?a?");
        due("nine texts", d.text(6, 8), "aaaaaaaa");
        due("no tenth", d.t.text(6, 9, 0), FEWER);
        due("no refusal", refusals(d), "0 0 0");
    }

    private static void badText(Desk d) {
        due("v -1", d.t.text(-1, 0, 0), BAD);
        due("v 0", d.t.text(0, 0, 0), NONE);
        due("v 7", d.t.text(7, 1, 0), 'a');
        due("v 8", d.t.text(8, 0, 0), BAD);
        due("k -1", d.t.text(4, -1, 0), BAD);
        due("k 20", d.t.text(4, 20, 0), 'a');
        due("k 21", d.t.text(4, 21, 0), BAD);
        due("k 21 of one text", d.t.text(0, 21, 0), BAD);
        for (int far : FAR) {
            due("far", d.t.text(far, 0, 0) + d.t.text(4, far, 0), 2 * BAD);
        }
        due("counted", refusals(d), "15 0 0");
    }

    private static void badPlace(Desk d) {
        due("-1", d.t.text(4, 1, -1), BAD);
        due("far", d.t.text(4, 1, LEAST), BAD);
        due("also if there are fewer texts", d.t.text(0, 1, -1), BAD);
        due("0", d.t.text(4, 1, 0), 'a');
        due("counted", refusals(d), "3 0 0");
    }

    private static void noText(Desk d) {
        d.program(IMPOSSIBLE);
        due("a variable", d.t.text(0, 0, 0) + d.t.text(3, 20, 5), 2 * NO);
        due("a pattern", d.t.text(4, 1, 0), 'a');
        due("BAD comes first", d.t.text(0, 0, -1) + d.t.text(0, 21, 0), 2 * BAD);
        due("counted", refusals(d), "2 2 0");
    }

    private static void holds(Sentences s) {
        s.in("Promise 10: holds");
        s.plain("`int holds(int v)`");
        s.of("Returns 1 if the text in the text buffer,", d -> bufferText(d));
        s.of("which consists only of letters a, b, c (and spaces, which are ignored),", d -> spacedText(d));
        s.of("is in a language (v as for value()), else 0;", d -> isIn());
        s.of("the buffer stays;", d -> textBuffer(d));
        s.of("BAD if v is out of range;", d -> badHolds(d));
        s.of("NO as for value();", d -> noHolds(d));
        s.of("otherwise -10 minus the index of the first byte that is neither such a letter nor a space, if there is "
                + "one.", d -> textFault(d));
    }

    private static void bufferText(Desk d) {
        d.pattern(0, "(ab)*");
        due("an empty buffer", d.holds(4, ""), 1);
        due("ab", d.holds(4, "ab"), 1);
        due("aba", d.holds(4, "aba"), 0);
        due("a full buffer", d.holds(4, "ab".repeat(60)), 1);
        due("a full buffer", d.holds(4, "ab".repeat(59) + "aa"), 0);
    }

    private static void spacedText(Desk d) {
        d.pattern(0, "abc");
        due("spaces", d.holds(4, "  a b   c "), 1);
        due("only spaces", d.holds(4, "   "), 0);
        due("only spaces", d.holds(0, "   "), 1);
        due("no letter is left out", d.holds(4, "a b b c"), 0);
    }

    private static void isIn() {
        Desk d = withProgram("u='a';v='b';x='c';y='';", "b*", "c*", "..", "a|b");
        String[] in = {"a", "b", "c", "", "bbb", "cc", "ac", "b"};
        String[] out = {"", "a", "cc", "c", "bab", "ccb", "acb", "c"};
        for (int v = 0; v < 8; v++) {
            due("in " + v, d.holds(v, in[v]), 1);
            due("not in " + v, d.holds(v, out[v]), 0);
        }
    }

    private static void textBuffer(Desk d) {
        due("holds", d.holds(4, "a b"), 1);
        due("bytes", d.t.told(5), 3);
        due("again", d.t.holds(4) * 10 + d.t.holds(0), 10);
        due("a fault", d.holds(4, "a?"), -11);
        due("bytes", d.t.told(5), 2);
        due("the same bytes", d.t.pattern(0), 3);
    }

    private static void badHolds(Desk d) {
        due("-1", d.t.holds(-1), BAD);
        due("0", d.t.holds(0), 1);
        due("7", d.t.holds(7), 1);
        due("8", d.t.holds(8), BAD);
        for (int far : FAR) {
            due("far", d.t.holds(far), BAD);
        }
        due("BAD comes before a fault", d.holds(8, "?"), BAD);
        due("counted", refusals(d), "8 0 0");
    }

    private static void noHolds(Desk d) {
        d.program(IMPOSSIBLE);
        d.write("a");
        due("a variable", d.t.holds(0) + d.t.holds(3), 2 * NO);
        due("a pattern", d.t.holds(4), 1);
        due("NO comes before a fault", d.holds(0, "?"), NO);
        due("a pattern", d.t.holds(4), -10);
        due("counted", refusals(d), "0 3 0");
    }

    private static void textFault(Desk d) {
        String[] faulty = {"d", "`", "ab d", "A", "aB", "  0", "a\0", "a\177", "ab.c", "abc|"};
        int[] places = {0, 0, 3, 0, 1, 2, 1, 1, 2, 3};
        for (int i = 0; i < faulty.length; i++) {
            due(faulty[i], d.holds(4, faulty[i]), -10 - places[i]);
            due(faulty[i] + " in another", d.t.holds(0), -10 - places[i]);
        }
        due("the first one", d.holds(4, "a?b?"), -11);
        due("at the end", d.holds(4, "a".repeat(119) + "x"), -129);
    }

    private static void within(Sentences s) {
        s.in("Promise 11: within");
        s.plain("`int within(int v, int w)`");
        s.of("Returns 1 if each text of the language v is in the language w (both as for value()), else 0;",
                d -> isWithin());
        s.of("BAD if v or w is out of range;", d -> badWithin(d));
        s.of("NO as for value(), for one of them.", d -> noWithin(d));
    }

    private static void isWithin() {
        Desk d = withProgram("u='aa';v='';", "a*", "(aa)*", "(..........)*", "(.........)*");
        due("some in all", d.t.within(5, 4), 1);
        due("all in some", d.t.within(4, 5), 0);
        due("itself", d.t.within(4, 4) + d.t.within(0, 0), 2);
        due("u", d.t.within(0, 5), 1);
        due("not in u", d.t.within(5, 0), 0);
        due("the empty text", d.t.within(1, 6) + d.t.within(1, 0), 1);
        due("variables that are the same", d.t.within(1, 2) + d.t.within(3, 1), 2);
        due("the tenth letter tells", d.t.within(6, 7) + d.t.within(7, 6), 0);
        due("not by what was found before", d.t.within(6, 6) + d.t.within(0, 0) + d.t.within(1, 1), 3);
        due("the second one is asked for first", withProgram("u='a';", "a").t.within(4, 0), 1);
        due("the second one is asked for first", withProgram("u='b';", "a").t.within(4, 0), 0);
        Desk e = withProgram("u=0;", "(..........)*", ".*");
        due("in ALL", e.t.within(0, 5) + e.t.within(5, 5), 2);
        due("ALL in others", e.t.within(5, 0), 0);
        e = withProgram("u=03;v=2;", ".*c..", "", "aac..|aaa..", "aa|ab");
        due("a long way", e.t.within(1, 4) + e.t.within(4, 1), 0);
    }

    private static void badWithin(Desk d) {
        due("v", d.t.within(-1, 0) + d.t.within(8, 0), 2 * BAD);
        due("w", d.t.within(0, -1) + d.t.within(0, 8), 2 * BAD);
        due("both", d.t.within(8, 8), BAD);
        due("the last ones", d.t.within(7, 7), 1);
        due("the first ones", d.t.within(0, 0), 1);
        for (int far : FAR) {
            due("far", d.t.within(far, 0) + d.t.within(0, far), 2 * BAD);
        }
        due("counted", refusals(d), "15 0 0");
    }

    private static void noWithin(Desk d) {
        d.program(IMPOSSIBLE);
        due("v", d.t.within(0, 4) + d.t.within(3, 4), 2 * NO);
        due("w", d.t.within(4, 0) + d.t.within(7, 3), 2 * NO);
        due("both", d.t.within(0, 0), NO);
        due("none of them", d.t.within(4, 5), 1);
        due("BAD comes first", d.t.within(0, 8) + d.t.within(8, 0), 2 * BAD);
        due("counted", refusals(d), "2 5 0");
    }
}
