/** Section 3: the analysis. */
final class AnalysisCases extends Cases {
    private AnalysisCases() {
    }

    static void all(Sentences s) {
        s.in("3. The analysis");
        states(s);
        statements(s);
        loops(s);
        alarms(s);
    }

    private static void states(Sentences s) {
        s.of("An abstract state is either impossible, or consists of a language for each variable;", d -> state(d));
        s.of("it is impossible if one of these is NOTHING.", d -> oneIsNothing());
        s.of("The program begins with the state in which each language has only the empty text.", d -> begin(d));
        s.of("Statements are applied to it one after another;", d -> oneAfterAnother());
        s.of("an impossible state stays impossible,", d -> staysImpossible());
        s.of("and no loops are iterated", d -> noLoops());
        s.of("and no alarms are looked at for it.", d -> noAlarms());
    }

    private static void statements(Sentences s) {
        s.plain("- V = C: the language of V becomes that of the parts:");
        s.of("for one part its language;", d -> onePart());
        s.of("for more, CHAIN of the first two, then CHAIN of the result with the third one, and so on.",
                d -> moreParts());
        s.of("The language of a variable is that before the statement;", d -> beforeStatement());
        s.of("that of letters has exactly this text;", d -> letters());
        s.of("that of a digit is the pattern.", d -> digit());
        s.of("- V / p q: the language of V becomes REPLACE of it.", d -> replace());
        s.of("- ? V i: the first S is applied to the state in which the language of V is BOTH of it and pattern i,",
                d -> firstS());
        s.of("the second S to the one in which it is LESS of it and pattern i.", d -> secondS());
        s.of("The result is the join of what comes from both.", d -> result());
        s.of("The join of two states is JOIN for each variable;", d -> joinEach());
        s.of("if one of them is impossible, it is the other one.", d -> theOther());
        s.of("- + : both S are applied to the same state; the result is the join of what comes from both.",
                d -> plus());
    }

    private static void loops(Sentences s) {
        s.of("- # and * : The head is at first the state before the loop.", d -> firstHead());
        s.of("A round is this: S is applied to the head", d -> round());
        s.of("(for # to the head with BOTH of the language of V and pattern i in place of that language),",
                d -> narrowed());
        s.of("and what comes is joined with the head.", d -> joined());
        s.of("For each variable whose language is different by that from its language in the head:",
                d -> onlyDifferent());
        s.of("if at least DELAY rounds of this loop have been done before this one", d -> delay());
        s.of("since the loop was entered this time,", d -> enteredAgain());
        s.of("the new language is WIDEN of it with k = K;", d -> widen());
        s.of("if at least 20 rounds have been done before, it is ALL instead.", d -> twenty());
        s.of("The result is the new head.", d -> newHead());
        s.of("If no language is different, this was the last round.", d -> lastRound());
        s.of("The state behind the loop is the head;", d -> behind());
        s.of("for # it is the head with LESS of the language of V and pattern i in place of that language.",
                d -> behindTest());
    }

    private static void alarms(Sentences s) {
        s.of("- ! V i: the state stays.", d -> stays());
        s.of("Each time when an alarm is reached with a state, in whatever round, it is looked at which texts are both "
                + "in the language of V and in pattern i", d -> eachTime());
        s.of("(exactly, whatever the size).", d -> exactly());
        s.of("If there are some at any time, the alarm may be raised,", d -> atAnyTime());
        s.of("and its smallest text is the smallest of all such texts of all times.", d -> smallest());
        s.of("DELAY is 0 to 5, and K is 0 or 1;", d -> ranges(d));
        s.of("both are 1 at first.", d -> oneAtFirst(d));
    }

    private static Desk setting(int delay, int k, String program, String... patterns) {
        Desk d = withProgram(program, patterns);
        d.t.sets(0, delay);
        d.t.sets(1, k);
        return d;
    }

    private static void rounds(Desk d, int all, int most) {
        due("rounds", d.t.count(1), all);
        due("rounds of a loop", d.t.count(2), most);
    }

    private static void state(Desk d) {
        due("not impossible", d.t.count(3), 0);
        for (int v = 0; v < 4; v++) {
            due("a language", d.t.value(v, 0), 2);
        }
        d.program(IMPOSSIBLE);
        due("impossible", d.t.count(3), 1);
        for (int v = 0; v < 4; v++) {
            due("no language", d.t.value(v, 0), NO);
        }
    }

    private static void oneIsNothing() {
        for (char v : "uvxy".toCharArray()) {
            Desk d = withProgram("u='a';y='b';#V3{}".replace('V', v));
            due("by " + v, d.t.count(3), 1);
            due("all of it", d.t.value(0, 0) + d.t.value(1, 0) + d.t.value(2, 0) + d.t.value(3, 0), 4 * NO);
        }
        Desk d = withProgram("?u0{v='a';}{v='b';}", "a");
        due("BOTH is NOTHING", d.texts(1, 3), "b.");
        d = withProgram("?u0{v='a';}{v='b';}", "");
        due("LESS is NOTHING", d.texts(1, 3), "a.");
        d = withProgram("#u0{v='a';}", "a");
        due("BOTH is NOTHING in a loop", d.texts(1, 3), ".");
        due("nothing comes then", d.t.count(1), 1);
    }

    private static void begin(Desk d) {
        for (int v = 0; v < 4; v++) {
            due("texts", d.texts(v, 2), ".");
            due("size", d.t.value(v, 0), 2);
        }
        d.program("u=uvxy'a'u;");
        due("also in a program", d.texts(0, 2), "a.");
        String large = "'abcabcab'";
        d.program("u='L';v='L';x='L';y='L';".replace("'L'", large));
        due("large ones", d.t.value(0, 0) + d.t.value(1, 0) + d.t.value(2, 0) + d.t.value(3, 0), 40);
        d.program("*{u='';v='';x='';y='';}");
        rounds(d, 1, 1);
        due("not those of another program", d.texts(0, 2) + d.texts(1, 2) + d.texts(2, 2) + d.texts(3, 2), "....");
        d.program("u='abcabcab';*{u='ba';}v='abcabcab';v=v'aa';*{v=v'a';}");
        due("large ones", d.t.value(0, 3) + d.t.value(1, 3), 2);
        d.program("*{u='';v='';x='';y='';}");
        rounds(d, 1, 1);
    }

    private static void oneAfterAnother() {
        Desk d = withProgram("u='a';v=u;u=u'b';x=u;u/ac;y=ux;");
        due("texts", d.texts(0, 2) + d.texts(1, 2) + d.texts(2, 2) + d.texts(3, 2), "cb.a.ab.cbab.");
    }

    private static void staysImpossible() {
        String[] then = {"u='a';", "u=1;", "u/ab;", "!u0;", "?u1{}{}", "+{}{}", "*{}", "#u1{}", "*{u='a';}",
            "+{u='a';}{u='b';}"};
        for (String t : then) {
            due("behind it " + t, withProgram(IMPOSSIBLE + t, ".*", "a").t.count(3), 1);
        }
        Desk d = withProgram("?u1{u='c';v='c';}{}", ".*", "a");
        due("in a branch", d.texts(0, 2) + d.texts(1, 2), "..");
    }

    private static void noLoops() {
        rounds(withProgram(IMPOSSIBLE + "*{*{}}#v0{}"), 1, 1);
        rounds(withProgram("?u0{*{}#v1{}}{}", "a"), 0, 0);
        rounds(withProgram("?u0{}{*{*{}}}", "a?"), 0, 0);
        rounds(withProgram("#u0{*{}}", "a"), 1, 1);
        rounds(withProgram("*{#u1{}*{}}", "a"), 2, 1);
    }

    private static void noAlarms() {
        due("behind it", withProgram(IMPOSSIBLE + "!u0;").t.alarm(0, 0), 0);
        due("in a branch", withProgram("?u0{!v1;}{}", "a").t.alarm(0, 0), 0);
        due("in the other branch", withProgram("?u0{}{!v1;}", "a?").t.alarm(0, 0), 0);
        due("in a loop", withProgram("#u0{!v1;}", "a").t.alarm(0, 0), 0);
    }

    private static void onePart() {
        Desk d = withProgram("u='ab';v=u;x=0;y='';", "a*b");
        due("texts", d.texts(0, 2) + d.texts(1, 2) + d.texts(2, 3) + d.texts(3, 2), "ab.ab.b.ab.aab..");
        d = withProgram("u='abcabcabc';v='abcabcab';", "");
        due("nine letters", d.t.value(0, 3), 1);
        due("eight letters", d.t.value(1, 0), 10);
    }

    private static void moreParts() {
        Desk d = withProgram("u='aaaaaaaa''a''b';v='b''a''aaaaaaaa';x='aaaa''aaaa''';y=0'b'1;", "a?", "c?");
        due("the first two are ALL", d.t.value(0, 0), 2);
        due("with the third one", d.texts(0, 3), "b.ab.bb.");
        due("the third is too much", d.t.value(1, 3), 1);
        due("eight letters", d.texts(2, 2), "aaaaaaaa.");
        due("each with each", d.texts(3, 5), "b.ab.bc.abc.");
    }

    private static void beforeStatement() {
        Desk d = withProgram("u='a';u=u'b'u;v=vu;v=vv;");
        due("u", d.texts(0, 2), "aba.");
        due("v", d.texts(1, 2), "abaaba.");
        d = withProgram("u='a';u='b'u;v='a';v='b'vv;");
        due("it comes behind another part", d.texts(0, 2) + d.texts(1, 2), "ba.baa.");
        d = withProgram("u=0;u=uu;", "a|b");
        due("both parts are it", d.texts(0, 5), "aa.ab.ba.bb.");
    }

    private static void letters() {
        Desk d = withProgram("u='abc';v='';x='abcabcab';");
        due("texts", d.texts(0, 2) + d.texts(1, 2) + d.texts(2, 2), "abc..abcabcab.");
        due("sizes", d.t.value(0, 0) * 100 + d.t.value(1, 0) * 10 + d.t.value(2, 0), 530);
    }

    private static void digit() {
        Desk d = withProgram("u=0;v=1;x=2;y=3;", "a*", "", "(..........)*");
        for (int v = 0; v < 4; v++) {
            due("pattern " + v, d.t.within(v, v + 4) + d.t.within(v + 4, v), 2);
        }
    }

    private static void replace() {
        Desk d = withProgram("u=0;u/ab;v=0;v/b-;x/ab;", "a*b");
        due("texts", d.texts(0, 3) + d.texts(1, 3) + d.texts(2, 2), "b.bb.bbb..a.aa..");
        due("the others stay", d.texts(3, 2), ".");
    }

    private static void firstS() {
        Desk d = withProgram("u=0;?u1{v=u;u='c';}{}", "a|b", "b|c");
        due("in S", d.texts(1, 3), ".b.");
        due("behind it", d.texts(0, 4), "a.c.");
        d = withProgram("u=0;?u1{v=u;}{}", "a|b", ".");
        due("all", d.texts(1, 4) + d.texts(0, 3), "a.b.a.b.");
    }

    private static void secondS() {
        Desk d = withProgram("u=0;?u1{}{v=u;u='c';}", "a|b", "b|c");
        due("in S", d.texts(1, 3), ".a.");
        due("behind it", d.texts(0, 4), "b.c.");
        d = withProgram("u=0;?u1{}{v=u;}", "a|b", "c");
        due("all", d.texts(1, 4) + d.texts(0, 3), "a.b.a.b.");
        d = withProgram("u=0;?u1{v='b';}{u=u'c';}", "a|b", "b");
        due("not what the first S leaves", d.texts(0, 4), "b.ac.");
    }

    private static void result() {
        Desk d = withProgram("u=0;?u1{v='a';x='b';}{v='c';}", "a|b", "b");
        due("texts", d.texts(0, 3) + d.texts(1, 3) + d.texts(2, 3), "a.b.a.c..b.");
        d = withProgram("?u0{#v1{}}{#v1{}}", "a");
        due("both are impossible", d.t.count(3), 1);
    }

    private static void joinEach() {
        Desk d = withProgram("+{u='a';v='b';x='c';y='ab';}{u='b';v='b';y='ba';}");
        due("texts", d.texts(0, 3) + d.texts(1, 3) + d.texts(2, 3) + d.texts(3, 3), "a.b.b..c.ab.ba.");
        d = withProgram("+{u='abcabcab';v='a';}{u='ba';v='b';}");
        due("one is too large", d.t.value(0, 3), 1);
        due("the other is not", d.texts(1, 3), "a.b.");
    }

    private static void theOther() {
        Desk d = withProgram("+{#x3{}}{u='a';}+{v='b';}{#x3{}}");
        due("the first one is impossible", d.texts(0, 3), "a.");
        due("the second one is impossible", d.texts(1, 3), "b.");
        d = withProgram("?u0{u='a';}{u='b';}?u1{v='a';}{v='b';}", "", "b");
        due("the second one is impossible", d.texts(0, 3), "a.");
        due("the first one is impossible", d.texts(1, 3), "b.");
        due("both are", withProgram("+{#x3{}}{#x3{}}u='a';").t.count(3), 1);
        due("both are", withProgram("+{+{#x3{}}{#x3{}}}{}").t.count(3), 0);
    }

    private static void plus() {
        Desk d = withProgram("u='a';+{u=u'b';v=u;}{u=u'c';x=u;}");
        due("texts", d.texts(0, 4) + d.texts(1, 4) + d.texts(2, 4), "ab.ac..ab..ac.");
        d = withProgram("+{}{u='b';}+{v='a';}{}+{}{}");
        due("with nothing", d.texts(0, 3) + d.texts(1, 3) + d.texts(2, 2), ".b..a..");
    }

    private static void firstHead() {
        Desk d = setting(5, 1, "u='a';*{u='b';}v='a';#v0{v='b';}", "a");
        due("*", d.texts(0, 3), "a.b.");
        due("#", d.texts(1, 3), "b.");
        d = withProgram("u='a';#u0{u='b';}", "b");
        due("no time", d.texts(0, 3), "a.");
        d = withProgram("u=0;#u1{}", "a|b", "a");
        due("also what is not in the pattern", d.texts(0, 3), "b.");
    }

    private static void round() {
        Desk d = setting(5, 1, "u='a';*{v=u;u='b';}");
        due("u", d.texts(0, 3), "a.b.");
        due("v, in the second round also b", d.texts(1, 4), ".a.b.");
        rounds(d, 3, 3);
    }

    private static void narrowed() {
        Desk d = setting(5, 1, "u=0;#u1{v=u;u='c';}", "a|b", "a");
        due("v", d.texts(1, 3), ".a.");
        due("u", d.texts(0, 3), "b.c.");
        rounds(d, 2, 2);
        d = setting(5, 1, "#u0{u=u'a';}", "a?a?");
        due("only as long as it is in the pattern", d.texts(0, 3), "aaa.");
        rounds(d, 4, 4);
    }

    private static void joined() {
        Desk d = setting(5, 1, "u=0;*{u='c';}", "a|b");
        due("u", d.texts(0, 5), "a.b.c.");
        d = withProgram("u='a';*{u='b';#v0{}}");
        due("what comes is impossible", d.texts(0, 3), "a.");
        rounds(d, 2, 1);
        d = withProgram("+{u='abcabcab';}{}*{u='ba';v='a';}");
        due("too large", d.t.value(0, 3), 1);
        due("not too large", d.t.value(1, 3), 0);
    }

    private static void onlyDifferent() {
        Desk d = setting(0, 0, "v=0;x=0;*{u='a';x='ab';}", "ab|aab");
        due("u is widened", d.texts(0, 4), ".a.aa.aaa.");
        due("v is not", d.texts(1, 3), "ab.aab.");
        due("x is not: what comes was in it", d.texts(2, 3), "ab.aab.");
        due("y is not", d.texts(3, 2), ".");
    }

    private static void delay() {
        for (int delay = 0; delay <= 5; delay++) {
            Desk d = setting(delay, 0, "u='a';*{u=u'b';}");
            rounds(d, delay + 2, delay + 2);
            due("widened", d.texts(0, 3), "a.aa.ab.");
        }
        due("not before", setting(1, 0, "*{u='a';}").texts(0, 4), ".a.");
        due("at once", setting(0, 0, "*{u='a';}").texts(0, 4), ".a.aa.aaa.");
        String three = "#u0{u=u'a';}";
        due("five rounds without", setting(5, 0, three, "a?a?a?a?").texts(0, 3), "aaaaa.");
        due("the fifth is widened", setting(4, 0, three, "a?a?a?a?").t.value(0, 2), ENDLESS);
    }

    private static void enteredAgain() {
        Desk d = setting(2, 0, "*{u='a';*{u=u'b';}}");
        rounds(d, 10, 4);
        d = setting(1, 0, "*{u='';*{u='a';}v=u;}");
        due("the inner loop is never widened", d.texts(1, 4), ".a.");
        d = setting(1, 0, "*{u='a';}*{v='a';}");
        due("each loop has its own", d.texts(0, 4) + d.texts(1, 4), ".a..a.");
    }

    private static void widen() {
        due("K = 0", setting(0, 0, "*{u='a';}").texts(0, 4), ".a.aa.aaa.");
        due("K = 1", setting(0, 1, "*{u='a';}").texts(0, 4), ".a.");
        due("K = 0", setting(0, 0, "u='ab';*{u='aab';}").texts(0, 4), "b.ab.bb.cb.");
        due("K = 1", setting(0, 1, "u='ab';*{u='aab';}").texts(0, 4), "ab.aab.bab.cab.");
    }

    private static void twenty() {
        Desk d = setting(0, 1, "*{?x3{y=x'c';}{y=x'a';y/cb;}x=v;v=u;u=y;}", ".*", ".*", ".*", "b?a?");
        due("rounds", d.t.count(1), 22);
        due("x is different in the 21st round", d.t.value(2, 3), 1);
        due("v was different in the 20th one", d.t.value(1, 0), 3);
        due("u and y are not", d.t.value(0, 0) + d.t.value(3, 0), 6);
        d = setting(0, 1, "*{?x3{y=x'a';}{y=x'b';}x=v;v=u;u=y;}", ".*", ".*", ".*", "..?");
        rounds(d, 24, 24);
        due("ALL", d.t.value(0, 3) + d.t.value(1, 3) + d.t.value(2, 3) + d.t.value(3, 3), 4);
    }

    private static void newHead() {
        Desk d = setting(5, 1, "*{x=v;v=u;u='a';}");
        due("one in each round", d.texts(0, 3) + d.texts(1, 3) + d.texts(2, 3), ".a..a..a.");
        rounds(d, 4, 4);
        d = setting(0, 0, "*{v=u;u='a';}");
        due("the widened one", d.texts(1, 4), ".a.aa.aaa.");
        rounds(d, 3, 3);
    }

    private static void lastRound() {
        rounds(withProgram("*{}"), 1, 1);
        rounds(withProgram("u='a';*{u='a';v=v;}"), 1, 1);
        rounds(withProgram("*{u='a';}"), 2, 2);
        rounds(withProgram("#u0{}"), 1, 1);
        rounds(withProgram("*{}*{}*{u='a';}"), 4, 2);
        rounds(withProgram("*{*{*{*{*{}}}}}"), 5, 1);
        String[] first = {"''", "'a'", "'aaaaaab'", "'aaaaaa'", "'b'", "'abcabca'", "'aaaaaaaa'"};
        String[] second = {"'a'", "''", "'aaaaaac'", "'aaaaaaa'", "'c'", "'abcabcb'", "'aaaaaaac'"};
        for (int i = 0; i < first.length; i++) {
            Desk d = withProgram("u=" + first[i] + ";*{u=" + second[i] + ";}");
            rounds(d, 2, 2);
            due("both " + first[i] + " and " + second[i], d.t.many(0, 0) + d.t.many(0, 1) + d.t.many(0, 6)
                    + d.t.many(0, 7) + d.t.many(0, 8), 2);
        }
    }

    private static void behind() {
        Desk d = setting(5, 1, "u='b';*{u='a';v='c';}");
        due("texts", d.texts(0, 3) + d.texts(1, 3), "a.b..c.");
        d = withProgram("*{#v0{}}");
        due("also if S is impossible", d.texts(0, 2), ".");
    }

    private static void behindTest() {
        Desk d = setting(5, 1, "u=0;#u1{u='c';v='a';}", "a|b", "a");
        due("texts", d.texts(0, 4) + d.texts(1, 3), "b.c..a.");
        due("all are in the pattern", withProgram("u='a';#u0{}", "a|b").t.count(3), 1);
        due("none is in the pattern", withProgram("u='a';#u0{}", "b").texts(0, 3), "a.");
    }

    private static void stays() {
        Desk d = withProgram("u=0;!u1;!u2;", "a|b", "b", "c");
        due("texts", d.texts(0, 3), "a.b.");
        due("not impossible", d.t.count(3), 0);
    }

    private static void eachTime() {
        Desk d = setting(5, 1, "u='bb';*{!u0;u='ac';}");
        due("in the last round, too", d.raised(0), "ac");
        d = withProgram("u=0;*{?u1{}{!u1;}u=3;}", "(.....)*", "(...)*");
        due("in the first round, too", d.t.alarm(0, 0), 1);
        due("it is the empty text", d.t.alarm(0, 2), 0);
        d = setting(5, 1, "*{*{!u0;}u=u'a';}", "aaa");
        due("in each round of the outer loop", d.raised(0), "aaa");
        due("also if it was raised before", setting(5, 1, "u='cc';*{*{!u0;}u='ab';}").raised(0), "ab");
        due("also if it was raised before", setting(5, 1, "*{}u='cc';!u0;*{!u0;u='ab';}").raised(1), "ab");
        d = withProgram("+{u='b';}{u='a';}!u0;u='c';!u0;", "a|c");
        due("each alarm for itself", d.raised(0) + d.raised(1), "ac");
    }

    private static void exactly() {
        Desk d = withProgram("u=033;!u1;", "(..........)*", "(.........)*.", "", ".");
        due("ten times eight and two are nine times nine and one", d.raised(0), "a".repeat(82));
        due("letters", d.t.alarm(0, 2), 82);
        d = withProgram("u=1;!u0;", ".*c..", "aa.*");
        due("more than ten remainders", d.raised(0), "aacaa");
        d = withProgram("u=0;!u1;", "(aaaaaaaaa)*a", "(aaaaaaaa)*aa");
        due("ten and ten", d.raised(0), "a".repeat(10));
    }

    private static void atAnyTime() {
        Desk d = withProgram("!u0;!u1;u=2;!u1;!u0;", "", "a", "a|b");
        due("some", d.t.alarm(0, 0), 1);
        due("none", d.t.alarm(1, 0), 0);
        due("some of two", d.t.alarm(2, 0), 1);
        due("none of two", d.t.alarm(3, 0), 0);
        d = withProgram("*{!u0;u='a';}", "a");
        due("not in the first round", d.t.alarm(0, 0), 1);
    }

    private static void smallest() {
        due("the later one is shorter", setting(5, 1, "u='ca';*{!u0;u='b';}").raised(0), "b");
        due("the later one is longer", setting(5, 1, "u='b';*{!u0;u='aa';}").raised(0), "b");
        due("the later one is as long", setting(5, 1, "u='bb';*{!u0;u='ba';}").raised(0), "ba");
        due("the later one is as long", setting(5, 1, "u='ba';*{!u0;u='bb';}").raised(0), "ba");
        due("of one time", withProgram("u=1;!u0;", ".*", "ccc|bcc|bca").raised(0), "bca");
        due("only those in the pattern", withProgram("u=1;!u0;", "c.*", "a|b|ca").raised(0), "ca");
        due("only those in both", withProgram("u=1;!u0;", "a*bc", ".*").raised(0), "bc");
        due("only those in both", withProgram("u=1;!u0;", ".*", "a*cb").raised(0), "cb");
        due("the empty text", withProgram("!u0;").t.alarm(0, 2), 0);
        due("of an outer loop", setting(5, 1, "u='cc';*{*{!u0;}u='ab';}").raised(0), "ab");
        // In the first round LESS would be too large, and is its first operand; later it is small.
        Desk d = withProgram("u=0;*{?u1{}{!u2;}u=3;}", "(.....)*", "(...)*", "a?");
        due("the later ones are longer", d.t.alarm(0, 2), 0);
        d = withProgram("u=0;*{?u1{}{!u2;}u=3;}", ".*c..", "aa.*", "(aa|bb)c..");
        due("the later ones are as long", d.raised(0), "aacaa");
        d = withProgram("u=0;*{?u1{}{!u2;}u=3;}", ".*c..", "bb.*", "(aa|bb)c..");
        due("the later ones are smaller", d.raised(0), "aacaa");
    }

    private static void ranges(Desk d) {
        for (int delay = 0; delay <= 5; delay++) {
            d.t.sets(0, delay);
            due("DELAY", d.t.told(3), delay);
        }
        due("K", d.t.sets(1, 0) + d.t.told(4) * 10, 1);
        due("K", d.t.sets(1, 1) + d.t.told(4) * 10, 10);
        due("DELAY", d.t.sets(0, -1) + d.t.sets(0, 6), 2 * BAD);
        due("K", d.t.sets(1, -1) + d.t.sets(1, 2), 2 * BAD);
    }

    private static void oneAtFirst(Desk d) {
        due("DELAY", d.t.told(3), 1);
        due("K", d.t.told(4), 1);
        d.program("u='a';*{u=u'b';}");
        due("texts", d.texts(0, 4), "a.ab.abb.abbb.");
        rounds(d, 3, 3);
        d.program("u='ab';*{u='aab';}");
        due("the first round is not widened", d.texts(0, 3), "ab.aab.");
    }
}
