/** Section 1: texts, languages, the operations on them, and patterns. */
final class LanguageCases extends Cases {
    /** What stands behind it is reached by no text, while pattern 3 is ALL. */
    private static final String STOP = "{#x3{}}";

    private LanguageCases() {
    }

    static void all(Sentences s) {
        s.in("1. Texts and languages");
        s.of("A text is a sequence of the letters a, b and c; it can be empty.", d -> texts(d));
        s.of("Of two texts the shorter one is smaller,", d -> shorter(d));
        s.of("and of two different ones of equal length the lexicographically smaller one.", d -> lexicographic(d));
        s.plain("A language is a set of texts. The remainder of a language by a text t is the language of all texts u "
                + "such that t followed by u is in the language.");
        s.of("The size of a language is the number of its different remainders, by all texts (this is the number of "
                + "states of its minimal complete automaton).", d -> sizes(d));
        s.of("ALL is the language of all texts,", d -> allTexts(d));
        s.of("NOTHING the empty language; both have size 1.", d -> nothing(d));
        s.of("Each language that is made by the following operations,", d -> largeOperations());
        s.of("by a pattern,", d -> largePatterns(d));
        s.of("or from letters in quotation marks,", d -> largeLetters());
        s.of("is replaced by ALL if its size would be above 10;", d -> justTen());
        s.of("but the results of BOTH and LESS are replaced by their first operand then.", d -> firstOperand());
        operations(s);
        patterns(s);
    }

    private static void operations(Sentences s) {
        s.of("JOIN: the texts that are in at least one of two languages.", d -> join());
        s.of("BOTH: the texts that are in both.", d -> both());
        s.of("LESS: the texts that are in the first one, but not in the second one.", d -> less());
        s.of("CHAIN: the texts that consist of a text of the first language followed by a text of the second one.",
                d -> chain());
        s.of("REPLACE of a letter p by q: all texts of the language, in each of which every p is replaced by the "
                + "letter q,", d -> replace());
        s.of("or is removed if q is -.", d -> remove());
        s.of("WIDEN, with k = 0 or 1:", d -> kinds());
        s.of("two remainders of the language are similar if they contain the same texts of at most k letters.",
                d -> similar());
        s.of("The result has all texts that can be read like this: one begins with the language itself (its remainder "
                + "by the empty text);", d -> begin());
        s.of("reading a letter leads from a remainder to the remainder of this one by this letter;", d -> read());
        s.of("before, between and behind the letters one can go over to a similar remainder,", d -> goOver());
        s.of("as often as one likes;", d -> goOften());
        s.of("and one must end with a remainder that contains the empty text.", d -> end());
    }

    private static void patterns(Sentences s) {
        s.of("There are four patterns, 0 to 3;", d -> four(d));
        s.of("each is a language, at first ALL.", d -> atFirst(d));
        s.of("A pattern is written as one or more rows with | between two of them (a text of any of the rows);",
                d -> rows(d));
        s.of("a row is zero or more factors (a text of each, one behind the other;", d -> row(d));
        s.of("the empty text if there is none);", d -> emptyRow(d));
        s.of("a factor is a, b, c, . (any one letter),", d -> factors(d));
        s.of("or a pattern in parentheses,", d -> parentheses(d));
        s.of("optionally followed by * (repeated any number of times, also 0)", d -> star(d));
        s.of("or by ? (once or not at all).", d -> option(d));
        s.of("A pattern contains at most 10 letters and dots altogether.", d -> tenLetters(d));
    }

    private static void texts(Desk d) {
        due("the empty text is a text", d.holds(7, ""), 1);
        due("it is one of ALL", d.t.many(7, 0), 1);
        due("it is the smallest", d.t.text(7, 0, 0), NONE);
        due("three letters", d.t.many(7, 1), 3);
        due("the letters", d.texts(7, 4), ".a.b.c.");
        due("a letter is no empty text", d.holds(0, "a"), 0);
        due("the letter before a", d.holds(7, "`"), -10);
        due("the letter behind c", d.holds(7, "d"), -10);
    }

    private static void shorter(Desk d) {
        d.pattern(0, "ccc|aaaa|b");
        due("texts", d.texts(4, 3), "b.ccc.aaaa.");
        d.pattern(0, "c?b?a?");
        due("the empty text first", d.texts(4, 8), ".a.b.c.ba.ca.cb.cba.");
        d.program("u='a';+{u='aaa';}{u='cc';}!u1;");
        due("an alarm", d.raised(0), "cc");
        d.program("u='ab';*{!u1;u='c';}");
        due("an alarm that is looked at twice", d.raised(0), "c");
        // In the first round LESS would be too large, and is its first operand; later there are only longer texts.
        Desk e = withProgram("u=0;*{?u1{}{!u2;}u=3;}", ".*c..", "bb.*", "(bbc|a...)..");
        due("the longer one comes later", e.raised(0), "bbcaa");
    }

    private static void lexicographic(Desk d) {
        d.pattern(0, "(c|b|a)(b|a)");
        due("texts", d.texts(4, 6), "aa.ab.ba.bb.ca.cb.");
        d.pattern(0, "cab|bca|bac");
        due("texts", d.texts(4, 3), "bac.bca.cab.");
        d.program("+{u='ba';}{u='ac';}!u1;");
        due("an alarm", d.raised(0), "ac");
        d.program("+{u='cb';}{u='ca';}!u1;");
        due("the last letter", d.raised(0), "ca");
    }

    private static void sizes(Desk d) {
        String[] patterns = {"", "a", ".", "a*", ".*", "a.*", ".*a", ".*a..", "a?", "aa", "(..)*", "a|b"};
        int[] sizes = {2, 3, 3, 2, 1, 3, 2, 8, 3, 4, 2, 3};
        for (int i = 0; i < patterns.length; i++) {
            due(patterns[i], d.pattern(0, patterns[i]), sizes[i]);
            due(patterns[i], d.t.value(4, 0), sizes[i]);
        }
    }

    private static void allTexts(Desk d) {
        due("size", d.t.value(4, 0), 1);
        due("ALL", d.t.value(4, 3), 1);
        long power = 1;
        for (int n = 0; n <= 20; n++) {
            due("of " + n + " letters", d.t.many(4, n), power);
            power *= 3;
        }
        due("holds", d.holds(4, "abcabc".repeat(20)), 1);
    }

    private static void nothing(Desk d) {
        due("(a|b|c)* is ALL", d.pattern(0, "(a|b|c)*"), 1);
        due("it is", d.t.value(4, 3), 1);
        due("it is not NOTHING", d.t.value(4, 4), 0);
        due("NOTHING is one more remainder", d.pattern(0, "(a|b)*"), 2);
        due("of all texts there is one remainder", d.pattern(0, ".*(a*|b)"), 1);
    }

    private static Desk setting(int delay, int k, String program, String... patterns) {
        Desk d = withProgram(program, patterns);
        d.t.sets(0, delay);
        d.t.sets(1, k);
        return d;
    }

    private static void isAll(Desk d, int v) {
        due("size", d.t.value(v, 0), 1);
        due("ALL", d.t.value(v, 3), 1);
    }

    private static void largeOperations() {
        isAll(withProgram("+{u='abcabcab';}{u='ba';}"), 0);
        isAll(setting(5, 1, "u='abcabcab';*{u='ba';}"), 0);
        isAll(withProgram("+{u=0;}{u=1;}", "b*c.", "..b"), 0);
        isAll(withProgram("u='abcabca';u=u'bc';"), 0);
        isAll(withProgram("u=01;", "b*", "(..a)*"), 0);
        isAll(withProgram("u=0;u/ab;", "aa(b|c)*a(b|c)(b|c)"), 0);
        isAll(withProgram("u=0;u/a-;", "cc(b|c)*ab(b|c)(b|c)"), 0);
        Desk d = setting(0, 1, "u='aa';*{u=0;}", "b*a*b|..");
        isAll(d, 0);
        due("at once", d.t.count(1), 2);
        d = withProgram("u=01;v=10;", "(..........)*", ".*a..");
        isAll(d, 1);
        due("not by what is gone through", d.t.value(0, 0), 8);
        due("that is .*a..", d.t.within(0, 5) + d.t.within(5, 0), 2);
    }

    private static void largePatterns(Desk d) {
        due("nine letters are eleven remainders", d.pattern(0, "abcabcabc"), 1);
        isAll(d, 4);
        due("sixteen", d.pattern(0, ".*a..."), 1);
        isAll(d, 4);
        due("eleven that differ in short texts", d.pattern(0, "b*(..a)*"), 1);
        isAll(d, 4);
        due("ten and NOTHING", d.pattern(0, "(aaaaaaaaaa)*"), 1);
        isAll(d, 4);
        due("a part of a pattern can be larger", d.pattern(0, "(aaaaaaaaa)*"), 10);
        due("the shortest but one", d.text(4, 1), "aaaaaaaaa");
    }

    private static void largeLetters() {
        Desk d = withProgram("u='abcabcabc';v='bbbbbbbbb';x='" + "ab".repeat(20) + "';y='cc'y;");
        isAll(d, 0);
        isAll(d, 1);
        isAll(d, 2);
        due("others are not", d.texts(3, 2), "cc.");
        d = withProgram("u='abcabcab';v='aaaaaaa';");
        due("eight letters", d.texts(0, 2) + d.t.value(0, 0), "abcabcab.10");
        due("seven letters", d.texts(1, 2) + d.t.value(1, 0), "aaaaaaa.9");
    }

    private static void justTen() {
        Desk d = withProgram("+{u='abcabcab';}{u='b';}");
        due("JOIN of size 10", d.t.value(0, 0), 10);
        due("JOIN", d.texts(0, 3), "b.abcabcab.");
        d = withProgram("u='abcabca';u=u'b';v='abcabcab';");
        due("CHAIN of size 10", d.t.value(0, 0), 10);
        due("CHAIN", d.texts(0, 2), "abcabcab.");
        due("letters of size 10", d.t.value(1, 0), 10);
        due("letters", d.texts(1, 2), "abcabcab.");
        d = withProgram("u=0;u/ab;v=1;v/a-;", "a(b|c)*a(b|c)(b|c)", "c(b|c)*ab(b|c)(b|c)");
        due("REPLACE of size 10", d.t.value(0, 0), 10);
        due("REPLACE", d.texts(0, 4), "bbbb.bbbc.bbcb.bbcc.");
        due("REPLACE by - of size 10", d.t.value(1, 0), 10);
        due("REPLACE by -", d.texts(1, 4), "cbbb.cbbc.cbcb.cbcc.");
        d = setting(0, 1, "u='c';*{u=0;}", "(.c)?c.?");
        due("WIDEN of size 10", d.t.value(0, 0), 10);
        due("WIDEN", d.t.value(0, 3), 0);
        d = withPattern("abcabcab");
        due("a pattern of size 10", d.t.value(4, 0), 10);
        due("a pattern", d.texts(4, 2), "abcabcab.");
        due("ten dots", d.pattern(0, "(..........)*"), 10);
    }

    private static void firstOperand() {
        Desk d = withProgram("u=1;?u0{}" + STOP + "v=1;?v0" + STOP + "{}", ".*c..", "a.*");
        due("BOTH of size 10", d.t.value(0, 0), 10);
        due("BOTH", d.texts(0, 4), "acaa.acab.acac.acba.");
        due("LESS of size 10", d.t.value(1, 0), 10);
        due("LESS", d.texts(1, 4), "a.aa.ab.ac.");
        due("they share no text", d.t.within(0, 5) + d.t.within(1, 5) + d.t.within(0, 1), 2);
        d = withProgram("u=1;?u0{}" + STOP + "v=1;?v0" + STOP + "{}", ".*c..", "aa.*");
        due("BOTH of size 11 is the first operand", d.t.value(0, 0), 4);
        due("BOTH", d.t.within(0, 5) + d.t.within(5, 0), 2);
        due("LESS of size 11 is the first operand", d.t.value(1, 0), 4);
        due("LESS", d.t.within(1, 5) + d.t.within(5, 1), 2);
        d = withProgram("u=0;?u1{}" + STOP, ".*c..", "aa.*");
        due("not the second one", d.t.value(0, 0), 8);
        d = withProgram("u=2;?u0" + STOP + "{}v=u;?v1" + STOP + "{}x=2;?x1" + STOP + "{}?u1" + STOP + "{}", "b*c.",
                "..b");
        due("LESS of size 12 is what was before it", d.t.within(0, 1) + d.t.within(1, 0), 2);
        due("that has no text of pattern 0", d.t.many(1, 2), 9 - 3);
        due("but some of pattern 1", d.t.many(1, 3), 27 - 3);
        due("LESS alone", d.t.many(2, 3), 27 - 9);
        d = withProgram("u=0;#u1{}", "(.....)*", "(...)*");
        due("LESS behind a loop", d.t.within(0, 4) + d.t.within(4, 0), 2);
        d = withProgram("u=0;#u1{y='a';v=u;}", "(.....)*", "(...)*");
        due("BOTH in a loop", d.holds(1, "aaaaa"), 1);
    }

    private static void join() {
        Desk d = withProgram("+{u=0;}{u=1;}+{v=0;}{v=0;}+{x=2;}{x='b';}+{}{y=1;}", "ab?", "c|ab", ".*");
        due("of two", d.texts(0, 5), "a.c.ab.");
        due("of one with itself", d.texts(1, 5), "a.ab.");
        due("with ALL", d.t.value(2, 3), 1);
        due("with the empty text", d.texts(3, 5), ".c.ab.");
    }

    private static void both() {
        Desk d = withProgram("u=0;?u1{}" + STOP, "a*", "b*");
        due("only the empty text", d.texts(0, 3), ".");
        d = withProgram("u=0;?u1{}" + STOP, "ab?c?", "a|ac|b");
        due("of two", d.texts(0, 3), "a.ac.");
        d = withProgram("u=0;?u0{}" + STOP, "ab?c?");
        due("with itself", d.t.within(0, 4) + d.t.within(4, 0), 2);
        d = withProgram("u=0;?u2{}" + STOP, "ab?c?");
        due("with ALL", d.t.within(0, 4) + d.t.within(4, 0), 2);
        d = withProgram("u='a';?u0{}" + STOP, "b");
        due("none", d.t.count(3), 1);
        d = withProgram("u=1;?u0{}" + STOP, "b");
        due("of ALL", d.texts(0, 2), "b.");
    }

    private static void less() {
        Desk d = withProgram("u=0;?u1" + STOP + "{}", "ab?c?", "a|ac|b");
        due("of two", d.texts(0, 3), "ab.abc.");
        d = withProgram("u=0;?u1" + STOP + "{}", "a|b", "c*");
        due("none is taken", d.texts(0, 3), "a.b.");
        d = withProgram("u=0;?u0" + STOP + "{}", "ab?c?");
        due("itself", d.t.count(3), 1);
        d = withProgram("u='a';?u0" + STOP + "{}", "a|b");
        due("all are taken", d.t.count(3), 1);
        d = withProgram("u=1;?u0" + STOP + "{}", "..*");
        due("of ALL", d.texts(0, 3), ".");
    }

    private static void chain() {
        Desk d = withProgram("u=0 1;v=1 0;x=''0;y=0'';", "ab?", "b?|c");
        due("each with each", d.texts(0, 9), "a.ab.ac.abb.abc.");
        due("in this order", d.texts(1, 9), "a.ab.ba.ca.bab.cab.");
        due("with the empty text before", d.texts(2, 9), "a.ab.");
        due("with the empty text behind", d.texts(3, 9), "a.ab.");
        d = withProgram("u=0'c';v='c'0;x=0 1;y=1 0;", "a*", "b*");
        due("a* before a letter", d.texts(0, 4), "c.ac.aac.aaac.");
        due("a* behind a letter", d.texts(1, 4), "c.ca.caa.caaa.");
        due("a* b*", d.texts(2, 7), ".a.b.aa.ab.bb.aaa.");
        due("b* a*", d.texts(3, 7), ".a.b.aa.ba.bb.aaa.");
        d = withProgram("u=0'c';v='c'0;x=00;y=1 0;", "..*", "(a|b)*");
        due("any but the empty text before a letter", d.texts(0, 4), "ac.bc.cc.aac.");
        due("any but the empty text behind a letter", d.texts(1, 4), "ca.cb.cc.caa.");
        due("two letters at least", d.texts(2, 2) + d.t.value(2, 0), "aa.ab.3");
        due("the second one", d.t.within(3, 4) + d.t.within(4, 3), 2);
        d = withProgram("u=''  '';v=0'a';x='a'0;y=00;");
        due("of two empty texts", d.texts(0, 3), ".");
        due("behind ALL", d.texts(1, 5), "a.aa.ba.ca.aaa.");
        due("before ALL", d.texts(2, 5), "a.aa.ab.ac.aaa.");
        due("of ALL with ALL", d.t.value(3, 3), 1);
    }

    private static void replace() {
        Desk d = withProgram("u='abaca';u/ab;v=0;v/ab;x=0;x/cb;y=0;y/aa;", "a|b|aba");
        due("every one", d.texts(0, 2), "bbbcb.");
        due("two texts become one", d.texts(1, 4), "b.bbb.");
        due("none is there", d.texts(2, 4), "a.b.aba.");
        due("by itself", d.texts(3, 4), "a.b.aba.");
        d = withProgram("u='abc';u/ab;u/bc;u/ca;v/ab;x=0;x/ca;");
        due("one after another", d.texts(0, 2), "aaa.");
        due("of the empty text", d.texts(1, 2), ".");
        due("of ALL", d.texts(2, 5), ".a.b.aa.ab.");
    }

    private static void remove() {
        Desk d = withProgram("u='abaca';u/a-;v='aaa';v/a-;x=0;x/a-;y='b';y/a-;", "(ab)*a");
        due("every one", d.texts(0, 2), "bc.");
        due("nothing is left", d.texts(1, 2), ".");
        due("of endless many", d.texts(2, 4), ".b.bb.bbb.");
        due("none is there", d.texts(3, 2), "b.");
        d = withProgram("u=0;u/c-;v='cab';v/c-;x='abc';x/c-;");
        due("of ALL", d.texts(0, 5), ".a.b.aa.ab.");
        due("the first letter", d.texts(1, 2), "ab.");
        due("the last letter", d.texts(2, 2), "ab.");
    }

    /** u behind a program that widens the language of ab and aab at once. */
    private static Desk widened(int k) {
        return setting(0, k, "u='ab';*{u='aab';}");
    }

    private static void kinds() {
        Desk d = widened(0);
        due("k = 0: all that ends with b", d.texts(0, 5), "b.ab.bb.cb.aab.");
        due("k = 0: size", d.t.value(0, 0), 2);
        d = widened(1);
        due("k = 1: all that ends with ab", d.texts(0, 5), "ab.aab.bab.cab.aaab.");
        due("k = 1: size", d.t.value(0, 0), 3);
    }

    private static void similar() {
        Desk d = setting(0, 1, "u='a';*{u='aa';}");
        due("k = 1: the empty text counts, too", d.texts(0, 4), "a.aa.");
        d = setting(0, 0, "u='a';*{u='aa';}");
        due("k = 0: letters do not count", d.texts(0, 5), "a.aa.ba.ca.aaa.");
        d = setting(0, 1, "*{u='ab';}");
        due("k = 1: what is left of the empty text and of ab behind itself", d.texts(0, 4), ".ab.abab.ababab.");
        d = setting(0, 1, "u='ba';*{u='ca';}");
        due("k = 1: two letters do not count", d.texts(0, 5), "ba.ca.aba.aca.bba.");
        d = setting(0, 1, "+{u='ab';}{u='bc';}*{u='ca';}");
        due("k = 1: remainders by different letters differ", d.holds(0, "ac") + d.holds(0, "ba") + d.holds(0, "ab"),
                1);
    }

    private static void begin() {
        Desk d = widened(1);
        due("not with another remainder", d.holds(0, "b"), 0);
        due("ab", d.holds(0, "ab"), 1);
        d = setting(0, 1, "u='ab';*{u='acb';}");
        due("not with the remainder by a letter", d.holds(0, "cb") + d.holds(0, "b"), 0);
    }

    private static void read() {
        Desk d = widened(1);
        due("aab", d.holds(0, "aab"), 1);
        due("not by another letter", d.holds(0, "ac") + d.holds(0, "acb") + d.holds(0, "cb"), 0);
        d = widened(0);
        due("also from NOTHING", d.holds(0, "cccb"), 1);
    }

    private static void goOver() {
        Desk d = widened(0);
        due("before the first letter", d.holds(0, "b"), 1);
        due("between two letters", d.holds(0, "cb"), 1);
        d = widened(1);
        due("between two letters", d.holds(0, "aaab"), 1);
        due("before the first letter", d.holds(0, "cab"), 1);
        d = setting(0, 1, "*{u='ab';}");
        due("behind the last letter", d.holds(0, "abab"), 1);
    }

    private static void goOften() {
        Desk d = widened(0);
        due("twice", d.holds(0, "cbcb"), 1);
        due("many times", d.holds(0, "cb".repeat(30)), 1);
        d = setting(0, 1, "*{u='ab';}");
        due("many times", d.holds(0, "ab".repeat(60)), 1);
    }

    private static void end() {
        Desk d = widened(0);
        due("not with another", d.holds(0, "") + d.holds(0, "a") + d.holds(0, "ba") + d.holds(0, "bc"), 0);
        d = setting(0, 1, "*{u='ab';}");
        due("not with another", d.holds(0, "a") + d.holds(0, "aba") + d.holds(0, "b"), 0);
    }

    private static void four(Desk d) {
        due("-1", d.t.pattern(-1), BAD);
        for (int i = 0; i <= 3; i++) {
            d.write("a".repeat(i + 1));
            due("pattern " + i, d.t.pattern(i), i + 3);
        }
        due("4", d.t.pattern(4), BAD);
        for (int i = 0; i <= 3; i++) {
            due("each has its own", d.text(4 + i, 0), "a".repeat(i + 1));
        }
    }

    private static void atFirst(Desk d) {
        for (int i = 0; i <= 3; i++) {
            due("ALL", d.t.value(4 + i, 3), 1);
            due("size", d.t.value(4 + i, 0), 1);
            due("texts", d.t.many(4 + i, 2), 9);
        }
    }

    private static void rows(Desk d) {
        due("one", d.pattern(0, "ab"), 4);
        due("texts", d.texts(4, 3), "ab.");
        d.pattern(0, "b|ac|c");
        due("three", d.texts(4, 4), "b.c.ac.");
        due("the same twice", d.pattern(0, "b|b"), 3);
        d.pattern(0, "a|b*");
        due("a row is no factor", d.texts(4, 5), ".a.b.bb.bbb.");
        d.pattern(0, "ab|ca");
        due("a row has several factors", d.texts(4, 3), "ab.ca.");
        due("ten rows", d.pattern(0, "a|b|c|a|b|c|a|b|c|."), 3);
    }

    private static void row(Desk d) {
        d.pattern(0, "ab?(c|a)");
        due("one behind the other", d.texts(4, 5), "aa.ac.aba.abc.");
        d.pattern(0, "a*b*");
        due("each of them can be empty", d.texts(4, 6), ".a.b.aa.ab.bb.");
    }

    private static void emptyRow(Desk d) {
        due("an empty buffer", d.pattern(0, ""), 2);
        due("its text", d.texts(4, 2), ".");
        due("|", d.pattern(0, "|"), 2);
        due("its text", d.texts(4, 2), ".");
        d.pattern(0, "a|");
        due("the last row", d.texts(4, 3), ".a.");
        d.pattern(0, "|a");
        due("the first row", d.texts(4, 3), ".a.");
        d.pattern(0, "b||a");
        due("a row between two", d.texts(4, 4), ".a.b.");
        d.pattern(0, "a(|b)c");
        due("a row in parentheses", d.texts(4, 4), "ac.abc.");
        due("()", d.pattern(0, "()"), 2);
        due("its text", d.texts(4, 2), ".");
        d.pattern(0, "a()b");
        due("between letters", d.texts(4, 3), "ab.");
        due("120 rows", d.pattern(0, "|".repeat(120)), 2);
    }

    private static void factors(Desk d) {
        for (char c : "abc".toCharArray()) {
            due("a letter", d.pattern(0, "" + c), 3);
            due("its text", d.texts(4, 2), c + ".");
        }
        due("a dot", d.pattern(0, "."), 3);
        due("its texts", d.texts(4, 5), "a.b.c.");
        for (char c : "`dABC,-/0".toCharArray()) {
            due("no letter: " + c, d.pattern(0, "" + c), -10);
        }
    }

    private static void parentheses(Desk d) {
        d.pattern(0, "(ab)*");
        due("repeated as a whole", d.texts(4, 3), ".ab.abab.");
        d.pattern(0, "c(a|b)");
        due("rows inside", d.texts(4, 3), "ca.cb.");
        due("59 of them in each other", d.pattern(0, "(".repeat(59) + "a" + ")".repeat(59)), 3);
        due("its text", d.texts(4, 2), "a.");
        due("60 of them in each other", d.pattern(0, "(".repeat(60) + ")".repeat(60)), 2);
        Desk e = withPattern("()".repeat(60));
        due("60 of them in a row", e.texts(4, 2), ".");
        due("not closed", e.pattern(0, "(a"), -12);
        due("not opened", e.pattern(0, "a)"), -11);
    }

    private static void star(Desk d) {
        d.pattern(0, "ab*");
        due("a letter", d.texts(4, 4), "a.ab.abb.abbb.");
        d.pattern(0, ".*");
        due("a dot", d.t.value(4, 3), 1);
        d.pattern(0, "(a|bc)*");
        due("parentheses", d.texts(4, 5), ".a.aa.bc.aaa.");
        due("the empty text", d.pattern(0, "()*"), 2);
        due("of what is repeated", d.pattern(0, "(a*)*"), 2);
        due("120 letters", d.holds(4, "a".repeat(120)), 1);
        due("only one *", d.pattern(0, "a**"), -12);
        due("no ? behind *", d.pattern(0, "a*?"), -12);
        due("nothing before it", d.pattern(0, "*"), -10);
        due("nothing before it", d.pattern(0, "a|*"), -12);
        due("nothing before it", d.pattern(0, "(*a)"), -11);
    }

    private static void option(Desk d) {
        d.pattern(0, "ab?");
        due("a letter", d.texts(4, 3), "a.ab.");
        d.pattern(0, ".?");
        due("a dot", d.texts(4, 5), ".a.b.c.");
        d.pattern(0, "(ab)?");
        due("parentheses", d.texts(4, 3), ".ab.");
        d.pattern(0, "(a?)?");
        due("of an option", d.texts(4, 3), ".a.");
        due("only one ?", d.pattern(0, "a??"), -12);
        due("no * behind ?", d.pattern(0, "a?*"), -12);
        due("nothing before it", d.pattern(0, "?"), -10);
        due("nothing before it", d.pattern(0, "a|?"), -12);
        due("nothing before it", d.pattern(0, "(?a)"), -11);
    }

    private static void tenLetters(Desk d) {
        due("ten letters", d.pattern(0, "a?a?a?a?a*(b|b|b|b|b)"), 3);
        due("ten dots", d.pattern(0, "(..........)*"), 10);
        due("five and five", d.pattern(0, "(a.a.a.a.a.)*"), 1);
        due("eleven letters", d.pattern(0, "aaaaaaaaaaa"), -20);
        due("eleven dots", d.pattern(0, "..........."), -20);
        due("a letter behind ten dots", d.pattern(0, "..........a"), -20);
        due("a dot behind ten letters", d.pattern(0, "abcabcabca."), -20);
        due("in rows", d.pattern(0, "a|b|c|a|b|c|a|b|c|a|b"), -30);
        due("in parentheses", d.pattern(0, "(aaaaa)(aaaaa)(a)"), -25);
        due("other signs do not count", d.pattern(0, "((a|b|c)*(a|b|c)*(a|b|c)?)*|.*|()|()*"), 1);
        due("spaces do not count", d.pattern(0, " . . . . . . . . . . "), 1);
    }
}
