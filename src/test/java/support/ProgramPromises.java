import java.math.BigInteger;
import java.util.ArrayList;
import java.util.List;

/** The promises 12 to 22: alarms, counts, runs, undoing, and the digest. */
final class ProgramPromises extends Cases {
    private static final int[] FAR = {LEAST, -1000, -1, 1 << 20, GREATEST};

    private ProgramPromises() {
    }

    static void all(Sentences s) {
        alarm(s);
        raised(s);
        count(s);
        runs(s);
        ran(s);
        caughtAndRang(s);
        back(s);
        told(s);
        digest(s);
    }

    private static void alarm(Sentences s) {
        s.in("Promise 12: alarms");
        s.plain("`int alarms()`");
        s.of("Returns how many alarms the program has.", d -> alarms(d));
        s.in("Promise 13: alarm");
        s.plain("`int alarm(int j, int what)`");
        s.of("Returns for alarm j, what = 0: 1 if it may be raised, else 0;", d -> mayBe());
        s.of("1: the index of its ! in the text from which the program was read;", d -> index());
        s.of("2: how many letters its smallest text has,", d -> length());
        s.of("NONE if it cannot be raised;", d -> noLength());
        s.of("BAD if there is no such alarm,", d -> badAlarm(d));
        s.of("or if what is not 0 to 2.", d -> badAlarmWhat());
    }

    private static void alarms(Desk d) {
        due("at first", d.t.alarms(), 0);
        d.program("u='a';*{}");
        due("none", d.t.alarms(), 0);
        d.program("!u0;");
        due("one", d.t.alarms(), 1);
        d.program("?u0{!u0;}{*{!u0;}}!u0;");
        due("also inside of others", d.t.alarms(), 3);
        d.program("!u0;".repeat(30));
        due("thirty", d.t.alarms(), 30);
        d.program("!u0;!");
        due("a fault", d.t.alarms(), 30);
        d.t.back();
        due("back", d.t.alarms(), 3);
    }

    private static void mayBe() {
        Desk d = withProgram("!u0;!u1;u='a';!u1;!u0;", "", "a");
        due("in the pattern", d.t.alarm(0, 0), 1);
        due("not in the pattern", d.t.alarm(1, 0), 0);
        due("in the pattern", d.t.alarm(2, 0), 1);
        due("not in the pattern", d.t.alarm(3, 0), 0);
        d = withProgram("!u0;".repeat(30), "");
        due("the last of thirty", d.t.alarm(29, 0), 1);
        d = withProgram("?u0{!v0;}{!v1;}", "a", "");
        due("not reached", d.t.alarm(0, 0), 0);
        due("reached", d.t.alarm(1, 0), 1);
    }

    private static void index() {
        due("0", withProgram("!u0;").t.alarm(0, 1), 0);
        due("behind spaces", withProgram("   ! u 0 ;").t.alarm(0, 1), 3);
        Desk d = withProgram("u = 'a' ; !u0;*{ !v1 ; }");
        due("spaces count", d.t.alarm(0, 1), 10);
        due("spaces count", d.t.alarm(1, 1), 17);
        due("116", withProgram("!u0;".repeat(30)).t.alarm(29, 1), 116);
        d.write("                        !u0;");
        due("not in what stands in the buffer now", d.t.alarm(0, 1), 10);
        due("also if it cannot be raised", withProgram("u='a';!u0;", "b").t.alarm(0, 1), 6);
    }

    private static void length() {
        due("the empty text", withProgram("!u0;").t.alarm(0, 2), 0);
        due("one", withProgram("u=0;!u0;", "a|bc").t.alarm(0, 2), 1);
        due("eight", withProgram("u='abcabcab';!u0;").t.alarm(0, 2), 8);
        due("82", withProgram("u=033;!u1;", "(..........)*", "(.........)*.", "", ".").t.alarm(0, 2), 82);
    }

    private static void noLength() {
        Desk d = withProgram("!u0;!u1;", "a", "");
        due("cannot be raised", d.t.alarm(0, 2), NONE);
        due("can be", d.t.alarm(1, 2), 0);
        due("no refusal", refusals(d), "0 0 0");
    }

    private static void badAlarm(Desk d) {
        due("no alarm", d.t.alarm(0, 0), BAD);
        d.program("!u0;!u0;");
        due("-1", d.t.alarm(-1, 0), BAD);
        due("0", d.t.alarm(0, 0), 1);
        due("1", d.t.alarm(1, 0), 1);
        due("2", d.t.alarm(2, 0), BAD);
        for (int far : FAR) {
            due("far", d.t.alarm(far, 0), BAD);
        }
        d.t.back();
        due("no alarm any more", d.t.alarm(0, 0), BAD);
        due("counted", refusals(d), "9 0 0");
    }

    private static void badAlarmWhat() {
        Desk d = withProgram("!u0;");
        due("-1", d.t.alarm(0, -1), BAD);
        due("2", d.t.alarm(0, 2), 0);
        due("3", d.t.alarm(0, 3), BAD);
        for (int far : FAR) {
            due("far", d.t.alarm(0, far), BAD);
        }
        due("counted", refusals(d), "7 0 0");
    }

    private static void raised(Sentences s) {
        s.in("Promise 14: raised");
        s.plain("`int raised(int j, int i)`");
        s.of("Returns the code of letter i, from 0, of the smallest text of alarm j;", d -> raisedLetter());
        s.of("NONE if it has not so many letters,", d -> noRaisedLetter());
        s.of("or if the alarm cannot be raised;", d -> notRaised());
        s.of("BAD if there is no such alarm,", d -> badRaised(d));
        s.of("or if i is negative.", d -> badRaisedPlace());
    }

    private static void raisedLetter() {
        Desk d = withProgram("u='abc';!u0;v='cb';!v0;");
        due("first alarm", d.t.raised(0, 0) * 10000 + d.t.raised(0, 1) * 100 + d.t.raised(0, 2), 979899);
        due("second alarm", d.t.raised(1, 0) * 100 + d.t.raised(1, 1), 9998);
        Desk e = withProgram("u=033;!u1;", "(..........)*", "(.........)*.", "", ".");
        due("letter 81", e.t.raised(0, 81), 'a');
        e = withProgram("!u1;u='ccbccbcc';!u1;u/bc;!u1;" + "u='bc';!u1;".repeat(7));
        due("of several alarms", e.raised(0) + "." + e.raised(1) + "." + e.raised(2), ".ccbccbcc.cccccccc");
        for (int j = 3; j < 10; j++) {
            due("alarm " + j, e.raised(j), "bc");
        }
        due("thirty alarms", e.program("u='c';" + "!u0;".repeat(28)), 29);
        due("the last one", e.raised(27), "c");
        due("again one", e.program("u='b';!u0;"), 2);
        due("its letter", e.raised(0), "b");
    }

    private static void noRaisedLetter() {
        Desk d = withProgram("!u0;u='ab';!u0;");
        due("of the empty text", d.t.raised(0, 0), NONE);
        due("the last one", d.t.raised(1, 1), 'b');
        due("behind it", d.t.raised(1, 2), NONE);
        due("far behind it", d.t.raised(1, GREATEST), NONE);
        due("far behind it", d.t.raised(0, 1 << 20), NONE);
        due("no refusal", refusals(d), "0 0 0");
        Desk e = withProgram("u=033;!u1;!v0;", "(..........)*", "(.........)*.", "", ".");
        due("behind 82 letters", e.t.raised(0, 82), NONE);
        due("another alarm", e.t.raised(1, 0), NONE);
        due("a hundred letters away", e.t.raised(0, 100), NONE);
    }

    private static void notRaised() {
        Desk d = withProgram("!u0;", "a");
        due("the first letter", d.t.raised(0, 0), NONE);
        due("far", d.t.raised(0, GREATEST), NONE);
        d.pattern(0, "");
        due("it can be raised now", d.t.alarm(0, 0), 1);
        d = withProgram("u='ab';!u0;");
        due("it can be raised", d.t.raised(0, 0), 'a');
        d.pattern(0, "b");
        due("not any more", d.t.raised(0, 0), NONE);
    }

    private static void badRaised(Desk d) {
        due("no alarm", d.t.raised(0, 0), BAD);
        d.program("u='a';!u0;!u0;");
        due("-1", d.t.raised(-1, 0), BAD);
        due("1", d.t.raised(1, 0), 'a');
        due("2", d.t.raised(2, 0), BAD);
        for (int far : FAR) {
            due("far", d.t.raised(far, 0), BAD);
        }
        due("counted", refusals(d), "8 0 0");
    }

    private static void badRaisedPlace() {
        Desk d = withProgram("!u0;!u1;", ".*", "a");
        due("-1", d.t.raised(0, -1), BAD);
        due("far", d.t.raised(0, LEAST), BAD);
        due("also if it cannot be raised", d.t.raised(1, -1), BAD);
        due("0", d.t.raised(0, 0), NONE);
        due("counted", refusals(d), "3 0 0");
    }

    private static void count(Sentences s) {
        s.in("Promise 15: count");
        s.plain("`int count(int what)`");
        s.of("Returns what = 0: how many statements the program has, those inside of others included;",
                d -> statements(d));
        s.of("1: how many rounds were done in all loops together in the analysis,", d -> allRounds());
        s.of("the last round of each loop included;", d -> lastRounds());
        s.of("2: the greatest number of rounds that a loop needed when it was entered once,", d -> mostRounds());
        s.of("0 if there was none;", d -> noRounds());
        s.of("3: 1 if the state behind the program is impossible, else 0;", d -> impossible());
        s.of("BAD if what is not 0 to 3.", d -> badCount(d));
    }

    private static void statements(Desk d) {
        due("at first", d.t.count(0), 0);
        String[] programs = {"u=v;", "*{u=v;v=u;}", "?u0{u=v;}{+{}{!u0;}}", "*{}".repeat(40), " "};
        int[] numbers = {1, 3, 4, 40, 0};
        for (int i = 0; i < programs.length; i++) {
            d.program(programs[i]);
            due(programs[i], d.t.count(0), numbers[i]);
        }
        d.program("u=");
        due("a fault", d.t.count(0), 0);
        d.t.back();
        due("back", d.t.count(0), 40);
    }

    private static void allRounds() {
        due("two loops", withProgram("*{u='a';}*{v='a';}").t.count(1), 4);
        due("a loop in a loop", withProgram("*{*{}u='a';}").t.count(1), 4);
        due("forty loops", withProgram("*{}".repeat(40)).t.count(1), 40);
        due("of both kinds", withProgram("#u0{}*{}", "b").t.count(1), 2);
        due("in both branches", withProgram("+{*{}}{*{}}").t.count(1), 2);
        Desk d = withProgram("*{u='a';}");
        due("asked for once", d.t.count(1), 2);
        due("asked for twice", d.t.count(1), 2);
        d.t.runs(0);
        due("not those of a run", d.t.count(1), 2);
        d.t.sets(0, 4);
        due("of the present analysis", d.t.count(1), 2);
    }

    private static void lastRounds() {
        due("one is the last one", withProgram("*{}").t.count(1), 1);
        due("two", withProgram("*{u='a';}").t.count(1), 2);
        due("the pattern holds no text", withProgram("#u0{u='b';}", "a").t.count(1), 1);
    }

    private static void mostRounds() {
        due("of three", withProgram("*{}*{u='a';}*{}").t.count(2), 2);
        due("of an inner one", withProgram("*{u='a';*{u=u'b';}}").t.count(2), 3);
        due("not of all times together", withProgram("*{*{}u='a';}").t.count(2), 2);
        due("one", withProgram("*{*{*{}}}").t.count(2), 1);
        Desk d = withProgram("u='a';*{u=u'b';}");
        d.t.sets(0, 5);
        due("seven", d.t.count(2), 7);
        d.t.back();
        due("three", d.t.count(2), 3);
    }

    private static void noRounds() {
        due("no loop", withProgram("u='a';").t.count(2), 0);
        due("none is reached", withProgram("?u0{*{}}{}", "a").t.count(2), 0);
        due("behind what is impossible", withProgram("?u0{?u1{}{*{}}}{}", "", ".?").t.count(2), 0);
        due("no program", new Desk().t.count(2) + new Desk().t.count(1), 0);
    }

    private static void impossible() {
        due("no program", new Desk().t.count(3), 0);
        due("#", withProgram("#u0{}").t.count(3), 1);
        due("not #", withProgram("#u0{}", "a").t.count(3), 0);
        due("both branches", withProgram("?u0{#v1{}}{#v1{}}", "a").t.count(3), 1);
        due("one branch", withProgram("+{#v1{}}{}", "a").t.count(3), 0);
        Desk d = withProgram("#u0{}");
        d.pattern(0, "a");
        due("not any more", d.t.count(3), 0);
        d.t.back();
        due("again", d.t.count(3), 1);
    }

    private static void badCount(Desk d) {
        due("-1", d.t.count(-1), BAD);
        due("0", d.t.count(0), 0);
        due("3", d.t.count(3), 0);
        due("4", d.t.count(4), BAD);
        for (int far : FAR) {
            due("far", d.t.count(far), BAD);
        }
        due("counted", refusals(d), "7 0 0");
    }

    private static void runs(Sentences s) {
        s.in("Promise 16: runs");
        s.plain("`int runs(int seed)`");
        s.of("Runs the program (section 4) with a seed.", d -> runsProgram());
        s.of("@return the number of steps;", d -> steps());
        s.of("LOST if the run is lost,", d -> lost());
        s.of("and then the results of the run before are kept;", d -> kept());
        s.of("BAD if seed is not 0 to 999999.", d -> badSeed(d));
    }

    private static void runsProgram() {
        Desk d = withProgram("u='a';v=u'b';!u0;", "a");
        due("before", d.ran(0) + d.ran(1) + d.t.rang(), "0");
        due("steps", d.t.runs(0), 3);
        due("texts", d.ran(0) + "." + d.ran(1), "a.ab");
        due("rang", d.t.rang(), 1);
        d.program("u='c';");
        d.t.runs(1);
        due("of another program", d.ran(0) + "." + d.ran(1) + "." + d.t.rang(), "c..0");
    }

    private static void steps() {
        due("none", new Desk().t.runs(0), 0);
        due("one", withProgram("u='a';").t.runs(0), 1);
        due("forty", withProgram("#u0{}".repeat(24), "a").t.runs(0), 24);
        due("a hundred", withProgram(RunCases.HUNDRED, RunCases.NINE).t.runs(0), 100);
        Desk d = withProgram("u='a';");
        due("each run for itself", d.t.runs(0) + d.t.runs(0) + d.t.runs(5), 3);
    }

    private static void lost() {
        due("by steps", withProgram("v=v;" + RunCases.HUNDRED, RunCases.NINE).t.runs(0), -6);
        due("by letters", withProgram("u='" + "a".repeat(41) + "';").t.runs(0), -6);
        Desk d = withProgram("#u0{}");
        due("again", d.t.runs(0) + d.t.runs(1), 2 * LOST);
        due("no refusal", refusals(d), "0 0 0");
    }

    private static void kept() {
        Desk d = withProgram("u='ab';v='c';!u0;!v0;");
        due("steps", d.t.runs(0), 4);
        d.program("u='b';v='bb';!u0;#u0{y='a';}");
        due("lost by steps", d.t.runs(0), LOST);
        due("texts", d.ran(0) + "." + d.ran(1) + "." + d.ran(2) + "." + d.ran(3), "ab.c..");
        due("rang", d.t.rang(), 2);
        d.program("u='b';!u0;v='" + "a".repeat(41) + "';");
        due("lost by letters", d.t.runs(0), LOST);
        due("texts", d.ran(0) + "." + d.ran(1), "ab.c");
        due("rang", d.t.rang(), 2);
        d.program("u='b';");
        due("not lost", d.t.runs(0), 1);
        due("texts", d.ran(0) + "." + d.ran(1) + "." + d.t.rang(), "b..0");
        Desk e = withProgram("u='a';!u0;#u0{}");
        due("the first run is lost", e.t.runs(0), LOST);
        due("as before", e.ran(0) + e.t.rang(), "0");
        due("caught: the empty text", withProgram("u='a';u='" + "a".repeat(41) + "';v='b';").t.caught(), 12 + 1);
    }

    private static void badSeed(Desk d) {
        due("-1", d.t.runs(-1), BAD);
        due("0", d.t.runs(0), 0);
        due("999999", d.t.runs(999999), 0);
        due("1000000", d.t.runs(1000000), BAD);
        for (int far : FAR) {
            due("far", d.t.runs(far), BAD);
        }
        due("counted", refusals(d), "7 0 0");
        Desk e = withProgram("u='a';!u0;");
        e.t.runs(3);
        e.program("u='b';");
        due("BAD", e.t.runs(1000000), BAD);
        due("nothing was run", e.ran(0) + e.t.rang(), "a1");
    }

    private static void ran(Sentences s) {
        s.in("Promise 17: ran");
        s.plain("`int ran(int v, int i)`");
        s.of("Returns the code of letter i, from 0, of the text that a variable, 0 to 3, held at the end of the latest "
                + "run that was not lost", d -> ranLetter());
        s.of("(the empty text if there was none);", d -> noRun());
        s.of("NONE if it has not so many letters;", d -> noRanLetter());
        s.of("BAD if v is out of range,", d -> badRan(d));
        s.of("or i is negative.", d -> badRanPlace());
    }

    private static void ranLetter() {
        Desk d = withProgram("u='a';v='bc';x='cba';y='" + "abc".repeat(13) + "b';u=u'c';");
        due("steps", d.t.runs(0), 5);
        due("at the end", d.ran(0), "ac");
        due("others", d.ran(1) + "." + d.ran(2), "bc.cba");
        due("letter 0", d.t.ran(3, 0), 97);
        due("letter 1", d.t.ran(3, 1), 98);
        due("letter 2", d.t.ran(3, 2), 99);
        due("letter 39", d.t.ran(3, 39), 98);
        d.program("u='b';");
        due("before another run", d.ran(0), "ac");
        d.t.runs(0);
        due("the latest", d.ran(0) + d.ran(3), "b");
    }

    private static void noRun() {
        Desk d = new Desk();
        due("no run", d.ran(0) + d.ran(1) + d.ran(2) + d.ran(3), "");
        d.program("u='a';#u0{}");
        due("none that was not lost", d.t.runs(0), LOST);
        due("texts", d.ran(0), "");
    }

    private static void noRanLetter() {
        Desk d = withProgram("u='a';y='" + "a".repeat(40) + "';");
        due("no run", d.t.ran(0, 0), NONE);
        due("steps", d.t.runs(0), 2);
        due("one letter", d.t.ran(0, 0), 'a');
        due("no second one", d.t.ran(0, 1), NONE);
        due("no letter of another", d.t.ran(1, 0), NONE);
        due("forty letters", d.t.ran(3, 39), 'a');
        due("no 41st one", d.t.ran(3, 40), NONE);
        due("far", d.t.ran(0, GREATEST) + d.t.ran(3, GREATEST) + d.t.ran(0, 120), 3 * NONE);
        due("no refusal", refusals(d), "0 0 0");
    }

    private static void badRan(Desk d) {
        due("-1", d.t.ran(-1, 0), BAD);
        due("0", d.t.ran(0, 0), NONE);
        due("3", d.t.ran(3, 0), NONE);
        due("4", d.t.ran(4, 0), BAD);
        for (int far : FAR) {
            due("far", d.t.ran(far, 0), BAD);
        }
        due("counted", refusals(d), "7 0 0");
    }

    private static void badRanPlace() {
        Desk d = withProgram("u='a';");
        due("no run", d.t.ran(0, -1), BAD);
        d.t.runs(0);
        due("-1", d.t.ran(0, -1) + d.t.ran(1, -1), 2 * BAD);
        due("far", d.t.ran(0, LEAST), BAD);
        due("0", d.t.ran(0, 0), 'a');
        due("counted", refusals(d), "4 0 0");
    }

    private static void caughtAndRang(Sentences s) {
        s.in("Promise 18: caught");
        s.plain("`int caught()`");
        s.of("Returns the set, as a bit mask, of the variables whose text at the end of that run (see ran())",
                d -> mask());
        s.of("is in their language behind the program by the present analysis;", d -> presentAnalysis());
        s.of("0 if the state behind the program is impossible.", d -> caughtImpossible());
        s.in("Promise 19: rang");
        s.plain("`int rang()`");
        s.of("Returns how many times alarms were raised in that run (see ran()),", d -> rang());
        s.of("0 if there was none.", d -> noRing());
    }

    private static void mask() {
        for (int v = 0; v < 4; v++) {
            Desk d = withProgram("uvxy".charAt(v) + "='a';");
            due("no run", d.t.caught(), 15 - (1 << v));
            d.t.runs(0);
            due("a run", d.t.caught(), 15);
            d.program("");
            due("no program", d.t.caught(), 15 - (1 << v));
        }
        Desk d = withProgram("u='a';v='a';x='a';y='a';");
        due("no run", d.t.caught(), 0);
        due("a new object", new Desk().t.caught(), 15);
        d.t.runs(0);
        d.program("u='a';y='a';#v0{}");
        due("lost", d.t.runs(0), LOST);
        d.program("u='a';y='a';");
        due("the run that was not lost", d.t.caught(), 9);
    }

    private static void presentAnalysis() {
        Desk d = withProgram("u=0;", "a");
        d.t.runs(0);
        due("in it", d.t.caught(), 15);
        d.pattern(0, "b");
        due("another pattern", d.t.caught(), 14);
        d.t.back();
        due("back", d.t.caught(), 15);
        d.program("u='aa';");
        due("another program", d.t.caught(), 14);
        d.program("u='b';*{u='ab';}v='b';*{v=v'b';}");
        due("not in it", d.t.caught(), 12);
        d.program("u='ab';*{u='aab';}");
        due("not in it", d.t.caught(), 14);
        d.t.sets(0, 0);
        d.t.sets(1, 0);
        due("still not in it: each ends with b", d.t.caught(), 14);
        d.program("u='ba';*{u='aba';}");
        due("K = 0: each ends with a", d.t.caught(), 15);
        d.t.sets(1, 1);
        due("K = 1: each ends with ba", d.t.caught(), 14);
    }

    private static void caughtImpossible() {
        Desk d = withProgram(IMPOSSIBLE);
        due("no run", d.t.caught(), 0);
        d.program("u='a';");
        d.t.runs(0);
        due("possible", d.t.caught(), 15);
        d.program("#v0{}");
        due("impossible by one", d.t.caught(), 0);
        due("no refusal", refusals(d), "0 0 0");
    }

    private static void rang() {
        Desk d = withProgram("!u0;!u1;!u0;u='a';!u1;", "", "a");
        d.t.runs(0);
        due("three of four", d.t.rang(), 3);
        due("each run for itself", d.t.runs(0) * 10 + d.t.rang(), 53);
        d = withProgram("#u0{!u0;u=u'a';}!u1;", "a?a?", "aaa");
        d.t.runs(0);
        due("in a loop, each time", d.t.rang(), 4);
        d.program("!u0;#v2{}");
        due("lost", d.t.runs(0), LOST);
        due("the one before", d.t.rang(), 4);
        d.program("");
        due("of that run", d.t.rang(), 4);
        d.t.runs(0);
        due("of the latest", d.t.rang(), 0);
        d = withProgram("!v0;!v0;".repeat(15));
        d.t.runs(0);
        due("thirty", d.t.rang(), 30);
    }

    private static void noRing() {
        Desk d = withProgram("!u0;#u0{}");
        due("no run", d.t.rang(), 0);
        due("a lost one", d.t.runs(0), LOST);
        due("still none", d.t.rang(), 0);
        d.program("u='a';");
        d.t.runs(0);
        due("no alarm", d.t.rang(), 0);
        d.pattern(0, "b");
        d.program("!u0;");
        d.t.runs(0);
        due("none is raised", d.t.rang(), 0);
    }

    private static void back(Sentences s) {
        s.in("Promise 20: back");
        s.plain("`int back()`");
        s.of("Returns to the latest remembered state (section 5),", d -> latest(d));
        s.of("which is not remembered any more then.", d -> forgotten(d));
        s.of("@return how many are still remembered;", d -> howMany(d));
        s.of("NO if there was none.", d -> noBack(d));
    }

    private static void latest(Desk d) {
        d.pattern(0, "a");
        d.pattern(0, "b");
        d.t.back();
        due("the pattern", d.texts(4, 2), "a.");
        d.program("u='a';");
        d.program("u='b';");
        d.t.back();
        due("the program", d.texts(0, 2), "a.");
        d.t.sets(0, 4);
        d.t.sets(0, 2);
        d.t.back();
        due("DELAY", d.t.told(3), 4);
        d.t.sets(1, 0);
        d.t.back();
        due("K", d.t.told(4), 1);
        due("not the buffer", d.t.told(5), 6);
        d.t.runs(0);
        d.t.back();
        due("not the run", d.ran(0), "a");
        d.t.told(7);
        d.t.back();
        due("not the refusals", refusals(d), "1 0 0");
    }

    private static void forgotten(Desk d) {
        d.t.sets(0, 3);
        d.t.sets(0, 5);
        d.t.back();
        due("the latest", d.t.told(3), 3);
        due("remembered", d.t.told(6), 1);
        d.t.back();
        due("the one before", d.t.told(3), 1);
        due("remembered", d.t.told(6), 0);
        due("back itself is not remembered", d.t.back(), NO);
        due("DELAY", d.t.told(3), 1);
    }

    private static void howMany(Desk d) {
        for (int i = 0; i < 7; i++) {
            d.t.sets(0, i % 6);
        }
        for (int i = 5; i >= 0; i--) {
            due("back", d.t.back(), i);
            due("told", d.t.told(6), i);
        }
    }

    private static void noBack(Desk d) {
        due("at first", d.t.back(), NO);
        d.t.sets(0, 3);
        due("one", d.t.back(), 0);
        due("none", d.t.back(), NO);
        due("as it was", d.t.told(3) * 10 + d.t.told(6), 10);
        due("counted", refusals(d), "0 2 0");
    }

    private static void told(Sentences s) {
        s.in("Promise 21: told");
        s.plain("`int told(int what)`");
        s.of("Returns how many calls so far returned what = 0: BAD;", d -> toldBad(d));
        s.of("1: NO;", d -> toldNo(d));
        s.of("2: FULL;", d -> toldFull(d));
        s.of("what = 3: DELAY;", d -> toldDelay(d));
        s.of("4: K;", d -> toldK(d));
        s.of("5: how many bytes the text buffer has;", d -> toldBytes(d));
        s.of("6: how many states are remembered;", d -> toldStates(d));
        s.of("BAD if what is not 0 to 6", d -> badTold(d));
        s.of("(this call is counted, too).", d -> toldItself(d));
    }

    private static void toldBad(Desk d) {
        due("at first", d.t.told(0), 0);
        int n = 0;
        d.program("!u0;");
        int[] answers = {d.t.type(-1), d.t.pattern(4), d.t.sets(0, 6), d.t.value(8, 0), d.t.text(0, 21, 0),
            d.t.holds(8), d.t.within(8, 0), d.t.alarm(1, 0), d.t.raised(1, 0), d.t.count(4), d.t.runs(-1),
            d.t.ran(4, 0), (int) d.t.many(8, 0)};
        for (int a : answers) {
            n += a == BAD ? 1 : 0;
        }
        due("each is BAD", n, 13);
        due("each is counted", d.t.told(0), 13);
        d.t.back();
        due("back does not change it", d.t.told(0), 13);
    }

    private static void toldNo(Desk d) {
        due("at first", d.t.told(1), 0);
        d.t.back();
        due("back", d.t.told(1), 1);
        d.program(IMPOSSIBLE);
        d.t.value(0, 0);
        due("value", d.t.told(1), 2);
        d.t.many(0, 0);
        due("many", d.t.told(1), 3);
        d.t.text(0, 0, 0);
        due("text", d.t.told(1), 4);
        d.t.holds(0);
        due("holds", d.t.told(1), 5);
        d.t.within(0, 0);
        due("within", d.t.told(1), 6);
        d.t.caught();
        d.t.digest();
        due("no others", d.t.told(1), 6);
    }

    private static void toldFull(Desk d) {
        d.write("a".repeat(120));
        due("not by the last one", d.t.told(2), 0);
        for (int i = 1; i <= 3; i++) {
            d.t.type('a');
            due("full", d.t.told(2), i);
        }
        d.t.clear();
        d.t.type('a');
        due("not any more", d.t.told(2), 3);
    }

    private static void toldDelay(Desk d) {
        due("at first", d.t.told(3), 1);
        d.t.sets(0, 5);
        due("5", d.t.told(3), 5);
        d.t.sets(1, 0);
        d.t.sets(0, 6);
        due("still", d.t.told(3), 5);
        d.t.sets(0, 0);
        due("0", d.t.told(3), 0);
    }

    private static void toldK(Desk d) {
        due("at first", d.t.told(4), 1);
        d.t.sets(1, 0);
        due("0", d.t.told(4), 0);
        d.t.sets(0, 5);
        d.t.sets(1, 2);
        due("still", d.t.told(4), 0);
    }

    private static void toldBytes(Desk d) {
        due("at first", d.t.told(5), 0);
        d.t.type(' ');
        due("spaces count", d.t.told(5), 1);
        d.t.type(200);
        due("not BAD ones", d.t.told(5), 1);
        d.write("a".repeat(120));
        d.t.type('a');
        due("not more than 120", d.t.told(5), 120);
        d.t.clear();
        due("none", d.t.told(5), 0);
    }

    private static void toldStates(Desk d) {
        due("at first", d.t.told(6), 0);
        for (int i = 1; i <= 8; i++) {
            d.t.sets(1, i % 2);
            due("sets", d.t.told(6), Math.min(i, 6));
        }
        d.t.back();
        due("back", d.t.told(6), 5);
        d.t.pattern(0);
        due("pattern", d.t.told(6), 6);
    }

    private static void badTold(Desk d) {
        due("-1", d.t.told(-1), BAD);
        due("0", d.t.told(0), 1);
        due("6", d.t.told(6), 0);
        due("7", d.t.told(7), BAD);
        for (int far : FAR) {
            due("far", d.t.told(far), BAD);
        }
    }

    private static void toldItself(Desk d) {
        for (int i = 1; i <= 5; i++) {
            due("BAD", d.t.told(6 + i), BAD);
            due("counted", d.t.told(0), i);
        }
    }

    private static void digest(Sentences s) {
        s.in("Promise 22: digest");
        s.plain("`long digest()` Computes a hash.");
        s.of("h is 1815 at first;", d -> newDigest(d));
        s.of("for each value v in the following order, h becomes 31 h + v", d -> order());
        s.of("(as longs, with overflow):", d -> overflow());
        s.of("told(0) to told(6);", d -> digestTold(d));
        s.of("count(0) to count(3);", d -> digestCount());
        s.of("if the state behind the program is not impossible, for each variable value() for what = 0 to 4;",
                d -> digestVariables());
        s.of("for each pattern value() for what = 0 to 4;", d -> digestPatterns());
        s.of("for each alarm alarm() for what = 0 to 2;", d -> digestAlarms());
        s.of("caught();", d -> digestCaught());
        s.of("rang().", d -> digestRang());
        s.of("@return h.", d -> same(d));
    }

    /** The hash of values, with numbers that do not overflow but for the end. */
    private static long hash(int[]... rows) {
        BigInteger h = BigInteger.valueOf(1815);
        for (int[] row : rows) {
            for (int v : row) {
                h = h.multiply(BigInteger.valueOf(31)).add(BigInteger.valueOf(v));
            }
        }
        return h.longValue();
    }

    private static int[] row(int... values) {
        return values;
    }

    private static int[] four(int... values) {
        int[] all = new int[20];
        for (int i = 0; i < 20; i++) {
            all[i] = values[i % 5];
        }
        return all;
    }

    /** Four times ALL. */
    private static int[] all() {
        return four(1, 0, 1000, 1, 0);
    }

    /** Four times the empty text. */
    private static int[] empty() {
        return four(2, 0, 0, 0, 0);
    }

    private static void newDigest(Desk d) {
        due("a new object", d.t.digest(), hash(row(0, 0, 0, 1, 1, 0, 0), row(0, 0, 0, 0), empty(), all(), row(15, 0)));
    }

    private static void order() {
        Desk d = withProgram("u='abc';*{v='a';}!u1;!v0;", "a", "a.*", "b?", "a*");
        d.t.runs(3);
        d.t.sets(0, 4);
        d.t.told(9);
        d.t.sets(1, 0);
        List<int[]> rows = new ArrayList<>();
        rows.add(row(1, 0, 0, 4, 0, 25, 6));
        rows.add(row(5, 2, 2, 0));
        rows.add(row(5, 3, 3, 0, 0, 3, 0, 1, 0, 0, 2, 0, 0, 0, 0, 2, 0, 0, 0, 0));
        rows.add(row(3, 1, 1, 0, 0, 3, 1, 1000, 0, 0, 3, 0, 1, 0, 0, 2, 0, 1000, 0, 0));
        rows.add(row(1, 17, 3, 1, 21, 1));
        // The first number below 3 that is drawn with seed 3 is 2, the second one 0: v becomes a.
        rows.add(row(15, 2));
        due("digest", d.t.digest(), hash(rows.toArray(new int[0][])));
    }

    private static void overflow() {
        Desk d = withProgram("!u0;".repeat(30));
        int[] alarms = new int[90];
        for (int j = 0; j < 30; j++) {
            alarms[3 * j] = 1;
            alarms[3 * j + 1] = 4 * j;
        }
        due("many values", d.t.digest(), hash(row(0, 0, 0, 1, 1, 120, 1), row(30, 0, 0, 0), empty(), all(), alarms,
                row(15, 0)));
    }

    private static void digestTold(Desk d) {
        d.t.told(7);
        d.t.told(7);
        d.t.back();
        d.write("a".repeat(120));
        d.t.type('a');
        d.t.type('a');
        d.t.type('a');
        d.t.sets(0, 5);
        d.t.sets(1, 0);
        due("2 1 3 5 0 120 2", d.t.digest(), hash(row(2, 1, 3, 5, 0, 120, 2), row(0, 0, 0, 0), empty(), all(),
                row(15, 0)));
        due("it counts nothing itself", refusals(d), "2 1 3");
    }

    private static void digestCount() {
        Desk d = withProgram("*{*{}}*{u=v;}");
        due("4 3 1 0", d.t.digest(), hash(row(0, 0, 0, 1, 1, 13, 1), row(4, 3, 1, 0), empty(), all(), row(15, 0)));
        d = withProgram(IMPOSSIBLE);
        due("1 1 1 1", d.t.digest(), hash(row(0, 0, 0, 1, 1, 5, 1), row(1, 1, 1, 1), all(), row(0, 0)));
    }

    private static void digestVariables() {
        Desk d = withProgram("v='ab';x=0;y=1;", ".*", "b*");
        int[] patterns = row(1, 0, 1000, 1, 0, 2, 0, 1000, 0, 0, 1, 0, 1000, 1, 0, 1, 0, 1000, 1, 0);
        due("each", d.t.digest(), hash(row(0, 0, 0, 1, 1, 15, 3), row(3, 0, 0, 0),
                row(2, 0, 0, 0, 0, 4, 2, 2, 0, 0, 1, 0, 1000, 1, 0, 2, 0, 1000, 0, 0), patterns, row(13, 0)));
        d.program(IMPOSSIBLE);
        due("none, if it is impossible", d.t.digest(), hash(row(0, 0, 0, 1, 1, 5, 4), row(1, 1, 1, 1), patterns,
                row(0, 0)));
        due("NO is not counted", refusals(d), "0 0 0");
    }

    private static void digestPatterns() {
        Desk d = new Desk();
        d.pattern(0, "a");
        d.pattern(1, "");
        d.pattern(2, "(ab)*");
        d.pattern(3, "abcabcab");
        due("each", d.t.digest(), hash(row(0, 0, 0, 1, 1, 8, 4), row(0, 0, 0, 0), empty(),
                row(3, 1, 1, 0, 0, 2, 0, 0, 0, 0, 3, 0, 1000, 0, 0, 10, 8, 8, 0, 0), row(15, 0)));
    }

    private static void digestAlarms() {
        Desk d = withProgram("!u0;!u1;x='ab';!x1;", "a", "");
        int[] patterns = row(3, 1, 1, 0, 0, 2, 0, 0, 0, 0, 1, 0, 1000, 1, 0, 1, 0, 1000, 1, 0);
        due("each", d.t.digest(), hash(row(0, 0, 0, 1, 1, 19, 3), row(4, 0, 0, 0),
                row(2, 0, 0, 0, 0, 2, 0, 0, 0, 0, 4, 2, 2, 0, 0, 2, 0, 0, 0, 0), patterns,
                row(0, 0, -1, 1, 4, 0, 0, 15, -1), row(11, 0)));
    }

    private static void digestCaught() {
        Desk d = withProgram("u='a';");
        int[] variables = row(3, 1, 1, 0, 0, 2, 0, 0, 0, 0, 2, 0, 0, 0, 0, 2, 0, 0, 0, 0);
        due("before a run", d.t.digest(), hash(row(0, 0, 0, 1, 1, 6, 1), row(1, 0, 0, 0), variables, all(),
                row(14, 0)));
        d.t.runs(0);
        due("behind a run", d.t.digest(), hash(row(0, 0, 0, 1, 1, 6, 1), row(1, 0, 0, 0), variables, all(),
                row(15, 0)));
    }

    private static void digestRang() {
        Desk d = withProgram("!u0;!u0;");
        int[] alarms = row(1, 0, 0, 1, 4, 0);
        due("before a run", d.t.digest(), hash(row(0, 0, 0, 1, 1, 8, 1), row(2, 0, 0, 0), empty(), all(), alarms,
                row(15, 0)));
        d.t.runs(0);
        due("behind a run", d.t.digest(), hash(row(0, 0, 0, 1, 1, 8, 1), row(2, 0, 0, 0), empty(), all(), alarms,
                row(15, 2)));
    }

    private static void same(Desk d) {
        d.pattern(0, "ab*");
        d.program("u=0;*{v=v'b';}!u0;");
        d.t.runs(7);
        long first = d.t.digest();
        due("twice", d.t.digest(), first);
        String before = seen(d);
        due("again", d.t.digest(), first);
        due("nothing is changed", seen(d), before);
        Desk e = new Desk();
        e.pattern(0, "ab*");
        e.program("u=0;*{v=v'b';}!u0;");
        e.t.runs(7);
        due("of the same calls on another object", e.t.digest(), first);
    }
}
