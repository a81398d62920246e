/** Section 5: the text buffer and undoing. */
final class BufferCases extends Cases {
    private static final String BEGIN = "uvxy!?#+*";

    private BufferCases() {
    }

    static void all(Sentences s) {
        s.in("5. The text buffer and undoing");
        s.of("The text buffer has at most 120 bytes.", d -> most(d));
        s.of("It can be read as a pattern, as a program, or as a text.", d -> threeWays(d));
        s.of("Spaces (byte 32) can stand anywhere in it and are ignored.", d -> spaces());
        s.of("The fault position is the index, from 0, of the first byte, other than a space, that cannot stand there "
                + "by the rules above", d -> firstFault());
        s.of("(also an eleventh letter or dot of a pattern,", d -> eleventh());
        s.of("an opening brace inside 5 others,", d -> sixthBrace());
        s.of("or a digit that is no pattern);", d -> digit());
        s.of("or the length of the buffer if it ends too early.", d -> tooEarly());
        s.of("Each call of pattern(), program() or sets() that is successful remembers how patterns, program, DELAY "
                + "and K were before it;", d -> remembers(d));
        s.of("at most 6 such states are remembered,", d -> six(d));
        s.of("the latest ones.", d -> latest(d));
        s.of("back() returns to them.", d -> returns(d));
        s.plain("The constructor and the methods follow, a promise each: the signature, then what it does.");
        s.in("Not promised");
        s.plain("How the state is held inside the object is free, as are the speed of each call, the text of toString "
                + "and the behaviour of equals and hashCode. Use of one object from several threads at once is not "
                + "promised to be safe. Nothing is promised beyond the answers and state changes described above, and "
                + "nothing about an object after its 512th call.");
    }

    private static void most(Desk d) {
        for (int i = 1; i <= 120; i++) {
            due("byte " + i, d.t.type(i == 120 ? '?' : i == 119 ? 'a' : ' '), i);
        }
        due("no more", d.t.type(' '), FULL);
        due("bytes", d.t.told(5), 120);
        due("all of them are read", d.t.pattern(0), 3);
        due("all of them are read", d.texts(4, 3), ".a.");
        due("clear", d.t.clear(), 120);
        due("and again", d.t.type('a'), 1);
    }

    private static void threeWays(Desk d) {
        due("a pattern", d.pattern(0, "abc"), 5);
        due("a text", d.t.holds(4), 1);
        due("no program", d.t.program(), -10);
        due("still there", d.t.told(5), 3);
        due("a program", d.program("*{}"), 1);
        due("no pattern", d.t.pattern(0), -10);
        due("no text", d.t.holds(4), -10);
        d.write("");
        due("all of them", d.t.pattern(0) + d.t.program() + d.t.holds(4), 3);
    }

    private static String spread(String text) {
        return " " + String.join(" ", text.split("")) + "  ";
    }

    private static void spaces() {
        String pattern = "(a|b)*c?.|";
        Desk d = withPattern(pattern);
        d.write(spread(pattern));
        due("a pattern", d.t.pattern(1), d.t.value(4, 0));
        due("the same language", d.t.within(4, 5) + d.t.within(5, 4), 2);
        String program = "u='ab'v0;v/a-;!u2;?u3{x='c';}{}#v3{}+{}{}*{}";
        d.pattern(3, "a");
        due("a program", d.program(program), 8);
        due("with spaces", d.program(spread(program)), 8);
        due("its alarm", d.t.alarm(0, 1), program.indexOf('!') * 2 + 1);
        due("steps", d.t.runs(0) >= 7 ? 1 : 0, 1);
        d.pattern(0, "abc");
        due("a text", d.holds(4, "  a b  c "), 1);
        due("only spaces", d.pattern(2, " ".repeat(120)), 2);
        due("only spaces", d.t.program(), 0);
        due("only spaces", d.t.holds(6), 1);
        Desk e = withProgram("u=' a  b ';v = 'a' 'b' ;");
        e.t.runs(0);
        due("between apostrophes", e.texts(0, 2) + e.texts(1, 2) + e.ran(0) + e.ran(1), "ab.ab.abab");
        for (int c : new int[] {0, 9, 10, 13, 31, 33, 95, 127}) {
            due("no space: " + c, asPattern("a" + (char) c), -11);
            due("no space: " + c, new Desk().holds(4, "a" + (char) c), -11);
            due("no space: " + c, asProgram("*" + (char) c), -11);
        }
    }

    /** Behind the text just these bytes can stand, and spaces. */
    private static void canStand(boolean program, String text, String bytes) {
        for (char c = 0; c < 128; c++) {
            int answer = program ? asProgram(text + c) : asPattern(text + c);
            boolean fault = answer == -10 - text.length();
            due("behind " + text + " byte " + (int) c + " is a fault", fault ? 1 : 0,
                    c != ' ' && bytes.indexOf(c) < 0 ? 1 : 0);
        }
    }

    private static void firstFault() {
        String[] texts = {"", BEGIN, "u", "=/", "v=", "uvxy0123'", "x='", "abc'", "y='ab", "abc'", "u=''", "uvxy0123';",
            "u=v", "uvxy0123';", "u=0", "uvxy0123';", "u='a';", BEGIN, "u/", "abc", "u/a", "abc-", "u/ab", ";", "u/a-",
            ";", "u/ac;", BEGIN, "!", "uvxy", "!u", "0123", "!v0", ";", "!x3;", BEGIN, "?", "uvxy", "?y", "0123",
            "?u0", "{", "?u0{", BEGIN + "}", "?u0{}", "{", "?u0{}{", BEGIN + "}", "?u0{}{}", BEGIN, "#", "uvxy", "#u",
            "0123", "#u0", "{", "#u0{", BEGIN + "}", "#u0{}", BEGIN, "+", "{", "+{", BEGIN + "}", "+{}", "{", "+{}{",
            BEGIN + "}", "+{}{}", BEGIN, "*", "{", "*{", BEGIN + "}", "*{}", BEGIN, "*{*{}", BEGIN + "}", "*{u=u;",
            BEGIN + "}", "*{*{*{*{*{", BEGIN + "}", "*{*{*{*{*{}", BEGIN + "}", " * { ", BEGIN + "}"};
        for (int i = 0; i < texts.length; i += 2) {
            canStand(true, texts[i], texts[i + 1]);
        }
        String[] patterns = {"", "abc.(|", "a", "abc.(|*?", ".", "abc.(|*?", "a*", "abc.(|", "b?", "abc.(|", "(",
            "abc.(|)", "(c", "abc.(|)*?", "(a*", "abc.(|)", "()", "abc.(|*?", "(a)", "abc.(|*?", "(a)*", "abc.(|", "|",
            "abc.(|", "(|", "abc.(|)", "((a)", "abc.(|)*?", "abcabcabc", "abc.(|*?", "a b ", "abc.(|*?"};
        for (int i = 0; i < patterns.length; i += 2) {
            canStand(false, patterns[i], patterns[i + 1]);
        }
        for (char c = 0; c < 128; c++) {
            due("text with byte " + (int) c, new Desk().holds(4, "a" + c), "abc ".indexOf(c) < 0 ? -11 : 1);
        }
        due("the first one of two", asPattern("a|*)"), -12);
        due("the first one of two", asProgram("u=;;"), -12);
        due("the first one of two", new Desk().holds(4, "abxcx"), -12);
        due("spaces are counted", asPattern("  a  *  * "), -18);
        due("spaces are counted", asProgram("  u  =  ; "), -18);
        due("spaces are counted", new Desk().holds(4, "  a  x "), -15);
    }

    private static void eleventh() {
        due("a letter", asPattern("abcabcabcab"), -20);
        due("a dot", asPattern("..........."), -20);
        due("with spaces", asPattern("a b c a b c a b c a b"), -30);
        due("it comes before what is missing", asPattern("(abcabcabcab"), -21);
        due("the tenth is none", asPattern("(abcabcabca"), -21);
        canStand(false, "abcabcabca", "(|*?");
        canStand(false, "(..........", "(|)*?");
        canStand(false, "a*b*c*a*b*c*a*b*c*.*", "(|");
    }

    private static void sixthBrace() {
        String five = "*{*{*{*{*{";
        due("of *", asProgram(five + "*{"), -21);
        due("of +", asProgram(five + "+{"), -21);
        due("of ?", asProgram(five + "?u0{"), -23);
        due("of #", asProgram(five + "#u0{"), -23);
        due("behind spaces", asProgram(five + "*  {"), -23);
        due("not the sign before it", asProgram(five + "*"), -21);
        due("with all that belongs to it", asProgram(five + "*{}}}}}}"), -21);
        due("in a second S", asProgram("+{}{+{}{+{}{+{}{+{}{*{"), -31);
        canStand(true, five + "*", "");
        canStand(true, five + "?u0", "");
    }

    private static void digit() {
        for (char c = '4'; c <= '9'; c++) {
            due("a part", asProgram("u=" + c + ";"), -12);
            due("a second part", asProgram("u=v" + c + ";"), -13);
            due("an alarm", asProgram("!u" + c + ";"), -12);
            due("a test", asProgram("?u" + c + "{}{}"), -12);
            due("a loop", asProgram("#u" + c + "{}"), -12);
        }
    }

    private static void tooEarly() {
        String program = "u='ab'v0;v/a-;!u2;?u3{x='c';*{}}{+{}{}}#v3{y=u;}";
        for (int n = 1; n <= program.length(); n++) {
            String text = program.substring(0, n);
            boolean complete = n == 9 || n == 14 || n == 18 || n == 39 || n == program.length();
            int answer = asProgram(text);
            due("the first " + n + " bytes", complete ? Math.min(answer, 0) : answer, complete ? 0 : -10 - n);
        }
        due("with spaces behind", asProgram("u=   "), -15);
        due("with spaces behind", asProgram(" * {  "), -16);
        due("an open parenthesis", asPattern("("), -11);
        due("an open parenthesis", asPattern("(a"), -12);
        due("an open parenthesis", asPattern("((a)*"), -15);
        due("an open parenthesis", asPattern("a|(b|"), -15);
        due("with spaces behind", asPattern("(a  "), -14);
        due("a full buffer", asPattern("(".repeat(120)), -130);
        due("a full buffer", asProgram("u=" + "v".repeat(118)), -130);
        due("a full buffer", asProgram("u='" + "a".repeat(117)), -130);
    }

    private static void remembers(Desk d) {
        due("none at first", d.t.told(6), 0);
        d.pattern(0, "a");
        due("pattern()", d.t.told(6), 1);
        d.program("u=0;");
        due("program()", d.t.told(6), 2);
        d.t.sets(0, 4);
        due("sets()", d.t.told(6), 3);
        d.t.sets(1, 0);
        due("sets()", d.t.told(6), 4);
        d.t.sets(1, 0);
        due("also if nothing is different", d.t.told(6), 5);
        d.t.sets(0, 6);
        d.t.sets(1, 2);
        d.t.sets(2, 0);
        d.t.pattern(4);
        due("not by BAD", d.t.told(6), 5);
        d.write("u=");
        d.t.pattern(0);
        d.t.program();
        due("not by a fault", d.t.told(6), 5);
        d.t.clear();
        d.t.type('a');
        d.t.runs(0);
        d.t.digest();
        d.t.holds(4);
        d.t.value(0, 0);
        due("not by others", d.t.told(6), 5);
        due("before the last sets()", d.t.back() * 10 + d.t.told(4), 40);
        due("before the one before", d.t.back() * 10 + d.t.told(4), 31);
        due("before the first sets()", d.t.back() * 10 + d.t.told(3), 21);
        due("before program()", d.t.back() * 10 + d.t.count(0), 10);
        due("before pattern()", d.t.back() * 10 + d.t.value(4, 3), 1);
    }

    private static void six(Desk d) {
        for (int i = 1; i <= 10; i++) {
            d.t.sets(0, i % 6);
            due("after " + i, d.t.told(6), Math.min(i, 6));
        }
        for (int i = 5; i >= 0; i--) {
            due("back", d.t.back(), i);
        }
        due("no seventh one", d.t.back(), NO);
    }

    private static void latest(Desk d) {
        for (int i = 1; i <= 8; i++) {
            d.pattern(0, "a".repeat(i));
        }
        for (int i = 7; i >= 2; i--) {
            d.t.back();
            due("the one before", d.text(4, 0), "a".repeat(i));
        }
        due("the first two are not remembered", d.t.back(), NO);
        due("it stays", d.text(4, 0), "aa");
        Desk e = withPattern("b");
        for (int i = 0; i < 6; i++) {
            e.t.sets(0, i);
        }
        for (int i = 0; i < 6; i++) {
            e.t.back();
        }
        due("the pattern was there before", e.texts(4, 2), "b.");
        due("DELAY as it was", e.t.told(3), 1);
    }

    private static void returns(Desk d) {
        d.pattern(1, "a");
        d.program("u=1;!u1;");
        d.t.sets(0, 3);
        d.t.sets(1, 0);
        due("K", d.t.back() * 10 + d.t.told(4), 31);
        due("DELAY stays", d.t.told(3), 3);
        due("DELAY", d.t.back() * 10 + d.t.told(3), 21);
        due("the program stays", d.t.alarms(), 1);
        due("the program", d.t.back() * 10 + d.t.alarms(), 10);
        due("the analysis", d.texts(0, 2), ".");
        due("the pattern stays", d.texts(5, 2), "a.");
        due("the pattern", d.t.back() * 10 + d.t.value(5, 3), 1);
        due("what comes then is remembered anew", d.t.sets(0, 5) + 10 * d.t.told(6), 11);
        due("and returned from", d.t.back() * 10 + d.t.told(3), 1);
    }
}
