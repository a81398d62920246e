/** Random runs of calls, compared with the model. An argument tells how many runs, a second one the first seed. */
public final class RandomRuns {
    private RandomRuns() {
    }

    public static void main(String[] args) {
        int runs = args.length > 0 ? Integer.parseInt(args[0]) : 1500;
        int first = args.length > 1 ? Integer.parseInt(args[1]) : 1;
        int wrong = 0;
        long calls = 0;
        for (int seed = first; seed < first + runs && wrong == 0; seed++) {
            Pair pair = new Pair();
            run(new Talk(seed), pair);
            wrong += pair.wrong;
            calls += pair.calls;
            if (pair.wrong > 0) {
                System.out.println("RandomRuns: seed " + seed + " has wrong answers");
            }
        }
        System.out.println("RandomRuns: " + calls + " calls, " + wrong + " wrong");
        if (wrong > 0) {
            System.exit(1);
        }
    }

    private static void run(Talk talk, Pair pair) {
        for (int i = 0; i < 4; i++) {
            if (talk.below(4) > 0) {
                pair.write(somePattern(talk));
                pair.pattern(i);
            }
        }
        pair.write(someProgram(talk));
        pair.program();
        while (pair.calls < 500) {
            call(talk, pair);
        }
        pair.digest();
    }

    private static String somePattern(Talk talk) {
        return talk.below(2) == 0 ? talk.pattern() : talk.large();
    }

    private static String someProgram(Talk talk) {
        int kind = talk.below(8);
        if (kind == 0) {
            return talk.ring();
        }
        return kind < 4 ? talk.program(40 + talk.below(81)) : talk.growing(120);
    }

    private static void call(Talk talk, Pair pair) {
        int kind = talk.below(100);
        if (kind < 3) {
            String text = talk.below(3) == 0 ? talk.spoiled(talk.pattern()) : somePattern(talk);
            pair.write(talk.below(3) == 0 ? talk.spaced(text) : text);
            pair.pattern(edge(talk, 4));
        } else if (kind < 6) {
            String text = someProgram(talk);
            text = talk.below(3) == 0 ? talk.spoiled(text) : text;
            pair.write(talk.below(3) == 0 ? talk.spaced(text) : text);
            pair.program();
        } else if (kind < 9) {
            pair.write(talk.below(4) == 0 ? talk.spoiled(talk.letters(9)) : talk.spaced(talk.letters(9)));
            for (int v = 0; v < 8; v++) {
                pair.holds(v);
            }
            pair.holds(edge(talk, 8));
        } else if (kind < 14) {
            int what = edge(talk, 2);
            pair.sets(what, edge(talk, what == 0 ? 6 : 2));
            pair.digest();
        } else if (kind < 17) {
            pair.back();
            pair.digest();
        } else {
            ask(talk, pair, kind);
        }
    }

    private static void ask(Talk talk, Pair pair, int kind) {
        if (kind < 30) {
            pair.value(edge(talk, 8), edge(talk, 5));
        } else if (kind < 38) {
            pair.many(edge(talk, 8), edge(talk, 21));
        } else if (kind < 50) {
            pair.text(edge(talk, 8), edge(talk, 21), edge(talk, 12));
        } else if (kind < 56) {
            pair.within(edge(talk, 8), edge(talk, 8));
        } else if (kind < 58) {
            pair.alarms();
        } else if (kind < 64) {
            pair.alarm(edge(talk, 3), edge(talk, 3));
        } else if (kind < 72) {
            pair.raised(edge(talk, 3), edge(talk, 6));
        } else if (kind < 76) {
            pair.count(edge(talk, 4));
        } else if (kind < 84) {
            pair.runs(talk.below(8) == 0 ? edge(talk, 1000000) : talk.below(1000000));
            pair.caught();
            pair.rang();
        } else if (kind < 92) {
            pair.ran(edge(talk, 4), edge(talk, 10));
        } else if (kind < 96) {
            pair.told(edge(talk, 7));
        } else {
            pair.digest();
        }
    }

    /** Mostly a number below n; sometimes one just outside, or far away. */
    private static int edge(Talk talk, int n) {
        int kind = talk.below(30);
        if (kind == 0) {
            return -1;
        }
        if (kind == 1) {
            return n;
        }
        if (kind == 2) {
            int[] far = {Integer.MIN_VALUE, Integer.MAX_VALUE, -100, 1 << 20};
            return far[talk.below(far.length)];
        }
        return talk.below(n);
    }
}
