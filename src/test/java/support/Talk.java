import java.util.Random;

/** Random patterns, programs and texts, good ones and faulty ones. */
final class Talk {
    private final Random random;

    Talk(long seed) {
        random = new Random(seed);
    }

    int below(int n) {
        return random.nextInt(n);
    }

    private boolean oneIn(int n) {
        return below(n) == 0;
    }

    String pattern() {
        int[] letters = {1 + below(oneIn(12) ? 11 : 8)};
        return rows(letters, 0);
    }

    private String rows(int[] letters, int depth) {
        StringBuilder b = new StringBuilder(row(letters, depth));
        while (oneIn(3)) {
            b.append('|').append(row(letters, depth));
        }
        return b.toString();
    }

    private String row(int[] letters, int depth) {
        StringBuilder b = new StringBuilder();
        int factors = below(oneIn(4) ? 6 : 4);
        for (int i = 0; i < factors; i++) {
            if (depth < 3 && oneIn(3)) {
                b.append('(').append(rows(letters, depth + 1)).append(')');
            } else if (letters[0] > 0) {
                letters[0]--;
                b.append(oneIn(3) ? '.' : (char) ('a' + below(3)));
            } else {
                continue;
            }
            if (oneIn(2)) {
                b.append(oneIn(3) ? '?' : '*');
            }
        }
        return b.toString();
    }

    String program(int most) {
        StringBuilder b = new StringBuilder();
        while (b.length() < most && !oneIn(12)) {
            b.append(statement(0));
        }
        while (b.length() > most) {
            b.setLength(0);
            for (int i = below(4); i >= 0; i--) {
                b.append(statement(1));
            }
        }
        return b.toString();
    }

    /** A program whose loops make texts grow, so that the analysis needs many rounds. */
    String growing(int most) {
        StringBuilder b = new StringBuilder();
        do {
            b.setLength(0);
            for (int i = below(3); i > 0; i--) {
                b.append(grow());
            }
            for (int i = below(2); i >= 0; i--) {
                b.append(growingLoop(1 + below(4)));
            }
            b.append(oneIn(2) ? "!" + variable() + digit() + ";" : "");
        } while (b.length() > most);
        return b.toString();
    }

    /** A loop in which texts go from variable to variable, so that each growth takes several rounds. */
    String ring() {
        String step = "y=x" + ("'" + letters(2) + "'") + ";" + (oneIn(2) ? "y/bc;y/ab;y='a'y;" : grow());
        String other = oneIn(3) ? grow().replaceFirst(".", "y") : "y=x'" + letters(2) + "';";
        String turn = oneIn(4) ? "x=u;u=y;" : "x=v;v=u;u=y;";
        String test = oneIn(4) ? "+" : "?x" + digit();
        return (oneIn(3) ? "#u" + digit() : "*") + "{" + test + "{" + other + "}{" + step + "}" + turn + "}";
    }

    private String growingLoop(int depth) {
        StringBuilder b = new StringBuilder(oneIn(3) ? "#" + variable() + digit() + "{" : "*{");
        for (int i = 1 + below(3); i > 0; i--) {
            if (depth > 1 && oneIn(2)) {
                b.append(growingLoop(depth - 1));
            } else if (depth > 1 && oneIn(3)) {
                String test = oneIn(3) ? "+" : "?" + variable() + digit();
                b.append(test).append('{').append(grow()).append("}{").append(oneIn(2) ? "" : grow()).append('}');
            } else {
                b.append(grow());
            }
        }
        return b.append('}').toString();
    }

    private String grow() {
        char v = variable();
        char w = oneIn(3) ? variable() : v;
        String letters = "'" + (char) ('a' + below(3)) + (oneIn(4) ? letters(3) : "") + "'";
        switch (below(8)) {
            case 0:
                return v + "=" + letters + w + ";";
            case 1:
                return v + "=" + letters + w + letters + ";";
            case 2:
                return v + "=" + letters + ";";
            case 3:
                return v + "=" + w + digit() + ";";
            case 4:
                return v + "/" + (char) ('a' + below(3)) + "abc-".charAt(below(4)) + ";";
            default:
                return v + "=" + w + letters + ";";
        }
    }

    /** A pattern whose language is not small: counts of letters, ends that are far away, long rows. */
    String large() {
        String[] forms = {"(..........)*", "(.........)*", "(aaaaaaaaa)*", ".*a..", "(.)*a(.|b).", "(b|c|a(b|c)*a)*",
            "(a|b)*a(a|b)(a|b)", "abcabcab", "(.*a.*b)*", "(...)*..", "(aa|bb|cc)*", "(a*b*c*)*a", ".*aab.*",
            "((b|c)*a(b|c)*a(b|c)*a)*", "(a(b(c)*)*)*", ".*(ab|ba)", "(.....)*", "(....)*.", "a.*a|b.*b|c.*c",
            "(a|bc)*b?", "(.*c)?ab*", "(ab*c|b)*", "......*", "b*ab*ab*ab*a?", ".?.?.?.?.?.?.?.?", "(..)*", "(...)*",
            "a*|b*|c*", ".*a.*", ".*b.*c.*", ".*cc", "(a|b|c)", "abccc.*", "abc*a.*",
            ".*ccc.*", "(ab*c*)?", ".*ca"};
        return forms[below(forms.length)];
    }

    private char variable() {
        return "uvxy".charAt(oneIn(3) ? below(4) : below(2));
    }

    private char digit() {
        return (char) ('0' + below(4));
    }

    private String statement(int depth) {
        int kind = below(depth < 5 ? 17 : 10);
        if (kind < 6) {
            return variable() + "=" + parts() + ";";
        }
        if (kind < 8) {
            return variable() + "/" + (char) ('a' + below(3)) + "abc-".charAt(below(4)) + ";";
        }
        if (kind < 10) {
            return "!" + variable() + digit() + ";";
        }
        String first = block(depth + 1);
        if (kind < 12) {
            return "?" + variable() + digit() + first + block(depth + 1);
        }
        if (kind < 14) {
            return "#" + variable() + digit() + first;
        }
        return kind < 15 ? "+" + first + block(depth + 1) : "*" + first;
    }

    private String block(int depth) {
        StringBuilder b = new StringBuilder("{");
        for (int i = below(3); i > 0; i--) {
            b.append(statement(depth));
        }
        return b.append('}').toString();
    }

    private String parts() {
        StringBuilder b = new StringBuilder();
        for (int i = below(oneIn(6) ? 4 : 2); i >= 0; i--) {
            int kind = below(7);
            if (kind < 3) {
                b.append(variable());
            } else if (kind == 3) {
                b.append(digit());
            } else {
                b.append('\'').append(letters(oneIn(15) ? 11 : 3)).append('\'');
            }
        }
        return b.toString();
    }

    String letters(int most) {
        StringBuilder b = new StringBuilder();
        for (int i = below(most + 1); i > 0; i--) {
            b.append((char) ('a' + below(3)));
        }
        return b.toString();
    }

    String spaced(String text) {
        StringBuilder b = new StringBuilder();
        for (char c : text.toCharArray()) {
            while (oneIn(10)) {
                b.append(' ');
            }
            b.append(c);
        }
        return b.append(" ".repeat(below(3))).toString();
    }

    /** Changes, removes, adds or cuts something, so that a fault is likely. */
    String spoiled(String text) {
        StringBuilder b = new StringBuilder(text);
        for (int i = below(2); i >= 0; i--) {
            int at = below(b.length() + 1);
            String signs = "abc.()|*?uvxy='/;!?#+*{}0123-4 d$~";
            char sign = signs.charAt(below(signs.length()));
            int how = below(4);
            if (how == 0 || at == b.length()) {
                b.insert(at, sign);
            } else if (how == 1) {
                b.setCharAt(at, sign);
            } else if (how == 2) {
                b.deleteCharAt(at);
            } else {
                b.setLength(at);
            }
        }
        return b.toString();
    }
}
