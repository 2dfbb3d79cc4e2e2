import java.math.BigInteger;
import java.util.ArrayList;
import java.util.HashMap;
import java.util.HashSet;
import java.util.List;
import java.util.Map;
import java.util.Random;
import java.util.Set;

/** Random rules, read by a machine of states and reckoned in great numbers: promises 7 and 8. */
final class PermitRunTest {
    private PermitRunTest() {
    }

    static void all() {
        Checks.test("P7 random texts are wrong where the model says", PermitRunTest::randomTexts);
        Checks.test("P8 random rules answer as the model reckons", PermitRunTest::randomRules);
    }

    // ---- reading

    private static final String[] WORDS = {"a", "b", "cde", "abcdefgh", "abcdefghi", "1", "0", "123456789", "1234567890", "+", "-", "*", "/", "(", ")",
        "<", "<=", "=", ">=", ">", ":", ";", "!", "@", "#", "A", "&"};

    /** The place of the first wrong word, or -1. */
    private static int wrongPlace(String text) {
        int place = 0;
        int words = 0;
        int depth = 0;
        boolean second = false;
        String state = "first";
        Set<String> rules = new HashSet<>();
        while (true) {
            while (place < text.length() && text.charAt(place) == ' ') {
                place++;
            }
            if (place == text.length()) {
                boolean done = state.equals("rule") || state.equals("behind") && depth == 0 && second || state.equals("behind day");
                return done ? -1 : place;
            }
            int end = place + 1;
            char c = text.charAt(place);
            char kind = c;
            if (Character.isDigit(c)) {
                while (end < text.length() && Character.isDigit(text.charAt(end))) {
                    end++;
                }
                kind = end - place > 9 ? '?' : '0';
            } else if (c >= 'a' && c <= 'z') {
                while (end < text.length() && text.charAt(end) >= 'a' && text.charAt(end) <= 'z') {
                    end++;
                }
                kind = end - place > 8 ? '?' : 'n';
            } else if ((c == '<' || c == '>') && end < text.length() && text.charAt(end) == '=') {
                end++;
            }
            words++;
            if (words > 120) {
                return place;
            }
            String word = text.substring(place, end);
            boolean operand = kind == '0' || kind == 'n';
            if (state.equals("first") || state.equals("rule")) {
                if (kind != 'n' || rules.size() == 12 || !rules.add(word)) {
                    return place;
                }
                state = "colon";
            } else if (state.equals("colon")) {
                if (kind != ':') {
                    return place;
                }
                state = "side";
                second = false;
            } else if (state.equals("side") || state.equals("factor")) {
                if (operand) {
                    state = "behind";
                } else if (kind == '(' && depth < 8) {
                    depth++;
                    state = "side";
                } else if (kind == '-' && state.equals("side")) {
                    state = "factor";
                } else {
                    return place;
                }
            } else if (state.equals("behind")) {
                if ("+-*/".indexOf(kind) >= 0) {
                    state = "factor";
                } else if (kind == ')' && depth > 0) {
                    depth--;
                } else if ("<=>".indexOf(kind) >= 0 && depth == 0 && !second) {
                    second = true;
                    state = "side";
                } else if (kind == '!' && depth == 0 && second) {
                    second = false;
                    state = "side";
                } else if (kind == '@' && depth == 0 && second) {
                    state = "day";
                } else if (kind == ';' && depth == 0 && second) {
                    state = "rule";
                } else {
                    return place;
                }
            } else if (state.equals("day")) {
                if (kind != '0') {
                    return place;
                }
                state = "behind day";
            } else {
                if (kind != ';') {
                    return place;
                }
                state = "rule";
            }
            place = end;
        }
    }

    private static void randomTexts() {
        int good = 0;
        int wrong = 0;
        for (int seed = 0; seed < 6000; seed++) {
            Random r = new Random(seed);
            StringBuilder text = new StringBuilder();
            int rules = 1 + r.nextInt(seed % 10 == 0 ? 14 : 3);
            for (int k = 0; k < rules; k++) {
                text.append((char) ('a' + k)).append(r.nextInt(12) == 0 ? "x" : "").append(':');
                clause(r, text);
                while (r.nextInt(4) == 0) {
                    text.append('!');
                    clause(r, text);
                }
                text.append(r.nextInt(4) == 0 ? "@" + r.nextInt(9) : "").append(k < rules - 1 || r.nextInt(3) == 0 ? ";" : "");
            }
            // A few changes make most texts wrong.
            for (int k = r.nextInt(3); k > 0; k--) {
                int at = r.nextInt(text.length());
                String word = WORDS[r.nextInt(WORDS.length)];
                if (r.nextBoolean()) {
                    text.replace(at, at + 1, word);
                } else {
                    text.insert(at, r.nextBoolean() ? word : " ");
                }
            }
            if (text.length() > 800) {
                text.setLength(800);
            }
            int place = wrongPlace(text.toString());
            TowerHouse x = new TowerHouse();
            int got = Houses.rules(x, text.toString());
            if (place >= 0) {
                wrong++;
                if (got != -1 - place) {
                    throw new AssertionError(text + " answered " + got + ", due is " + (-1 - place));
                }
                Checks.due(text.length(), x.say(0));
            } else {
                good++;
                Checks.due(true, got > 0);
                Checks.due(0, x.say(0));
            }
        }
        if (good < 1000 || wrong < 1000) {
            throw new AssertionError(good + " good texts, " + wrong + " wrong ones");
        }
    }

    private static void clause(Random r, StringBuilder text) {
        side(r, text, 0);
        text.append(new String[] {"<", "<=", "=", ">=", ">"}[r.nextInt(5)]);
        side(r, text, 0);
    }

    private static void side(Random r, StringBuilder text, int depth) {
        text.append(r.nextInt(4) == 0 ? "-" : "");
        for (int k = r.nextInt(3); k >= 0; k--) {
            if (r.nextInt(4) == 0 && depth < 10) {
                text.append('(');
                side(r, text, depth + 1);
                text.append(')');
            } else {
                text.append(r.nextBoolean() ? "a" : "7");
            }
            text.append(k > 0 ? "+-*/".charAt(r.nextInt(4)) : "");
            text.append(r.nextInt(5) == 0 ? " " : "");
        }
    }

    // ---- reckoning

    /** Why something is open. */
    private static final class Open extends RuntimeException {
        private static final long serialVersionUID = 1;
        final int why;
        final String name;

        Open(int why, String name) {
            this.why = why;
            this.name = name;
        }
    }

    private static BigInteger fit(BigInteger v) {
        if (v.bitLength() > 63) {
            throw new Open(2, "");
        }
        return v;
    }

    private static BigInteger times(BigInteger a, BigInteger b) {
        return fit(a.multiply(b));
    }

    private static BigInteger[] lowest(BigInteger a, BigInteger b) {
        BigInteger common = a.gcd(b);
        a = a.divide(common);
        b = b.divide(common);
        if (b.signum() < 0) {
            a = fit(a.negate());
            b = fit(b.negate());
        }
        return new BigInteger[] {a, b};
    }

    private static BigInteger[] combine(char sign, BigInteger[] x, BigInteger[] y) {
        BigInteger a = x[0];
        BigInteger b = x[1];
        BigInteger c = y[0];
        BigInteger d = y[1];
        switch (sign) {
            case '*':
                return lowest(times(a, c), times(b, d));
            case '/':
                if (c.signum() == 0) {
                    throw new Open(3, "");
                }
                return lowest(times(a, d), times(b, c));
            case '+':
                return lowest(fit(times(a, d).add(times(c, b))), times(b, d));
            default:
                return lowest(fit(times(a, d).subtract(times(c, b))), times(b, d));
        }
    }

    /** A part of a rule: it writes itself, and is reckoned from left to right. */
    private interface Part {
        void write(StringBuilder text);

        BigInteger[] reckon(Map<String, Integer> facts);
    }

    private static Part factor(Random r, int depth) {
        int kind = r.nextInt(depth < 3 ? 5 : 4);
        if (kind == 4) {
            Part side = sidePart(r, depth + 1);
            return new Part() {
                public void write(StringBuilder text) {
                    text.append('(');
                    side.write(text);
                    text.append(')');
                }

                public BigInteger[] reckon(Map<String, Integer> facts) {
                    return side.reckon(facts);
                }
            };
        }
        String[] names = {"x", "y", "y", "big", "z"};
        String word = kind < 2 ? String.valueOf(r.nextInt(3) == 0 ? r.nextInt(1000000000) : 1 << r.nextInt(27))
            : names[r.nextInt(12) == 0 ? 4 : r.nextInt(4)];
        String name = kind >= 2 && r.nextInt(40) == 0 ? "none" : word;
        return new Part() {
            public void write(StringBuilder text) {
                text.append(name);
            }

            public BigInteger[] reckon(Map<String, Integer> facts) {
                if (Character.isDigit(name.charAt(0))) {
                    return new BigInteger[] {new BigInteger(name), BigInteger.ONE};
                }
                if (!facts.containsKey(name)) {
                    throw new Open(1, name);
                }
                return new BigInteger[] {BigInteger.valueOf(facts.get(name)), BigInteger.ONE};
            }
        };
    }

    private static Part chain(List<Part> parts, String signs, boolean minus) {
        return new Part() {
            public void write(StringBuilder text) {
                text.append(minus ? "-" : "");
                for (int k = 0; k < parts.size(); k++) {
                    text.append(k > 0 ? String.valueOf(signs.charAt(k)) : "");
                    parts.get(k).write(text);
                }
            }

            public BigInteger[] reckon(Map<String, Integer> facts) {
                BigInteger[] got = parts.get(0).reckon(facts);
                if (minus) {
                    got = combine('-', new BigInteger[] {BigInteger.ZERO, BigInteger.ONE}, got);
                }
                for (int k = 1; k < parts.size(); k++) {
                    got = combine(signs.charAt(k), got, parts.get(k).reckon(facts));
                }
                return got;
            }
        };
    }

    private static Part term(Random r, int depth) {
        List<Part> parts = new ArrayList<>();
        StringBuilder signs = new StringBuilder();
        for (int k = r.nextInt(3); k >= 0; k--) {
            parts.add(factor(r, depth));
            signs.append(r.nextBoolean() ? '*' : '/');
        }
        return chain(parts, signs.toString(), false);
    }

    private static Part sidePart(Random r, int depth) {
        List<Part> parts = new ArrayList<>();
        StringBuilder signs = new StringBuilder();
        for (int k = r.nextInt(3); k >= 0; k--) {
            parts.add(term(r, depth));
            signs.append(r.nextBoolean() ? '+' : '-');
        }
        return chain(parts, signs.toString(), r.nextInt(4) == 0);
    }

    private static boolean holds(String sign, BigInteger[] left, BigInteger[] right) {
        int order = times(left[0], right[1]).compareTo(times(right[0], left[1]));
        switch (sign) {
            case "<":
                return order < 0;
            case "<=":
                return order <= 0;
            case "=":
                return order == 0;
            case ">=":
                return order >= 0;
            default:
                return order > 0;
        }
    }

    private static void randomRules() {
        int[] seen = new int[5];
        int[] why = new int[4];
        String[] signs = {"<", "<=", "=", ">=", ">"};
        for (int seed = 0; seed < 6000; seed++) {
            Random r = new Random(seed);
            Map<String, Integer> facts = new HashMap<>();
            facts.put("x", r.nextInt(7) - 3);
            facts.put("y", r.nextInt(2001) - 1000);
            facts.put("z", 0);
            facts.put("big", r.nextBoolean() ? 1000000000 : -1000000000);
            TowerHouse x = new TowerHouse();
            for (Map.Entry<String, Integer> fact : facts.entrySet()) {
                x.fact(Houses.word(fact.getKey()), fact.getValue());
            }
            int clauses = 1 + r.nextInt(3);
            Part[][] sides = new Part[clauses][2];
            String[] sign = new String[clauses];
            StringBuilder text = new StringBuilder("r:");
            for (int k = 0; k < clauses; k++) {
                sides[k][0] = sidePart(r, 0);
                sides[k][1] = sidePart(r, 0);
                sign[k] = signs[r.nextInt(5)];
                text.append(k > 0 ? "!" : "");
                sides[k][0].write(text);
                text.append(sign[k]);
                sides[k][1].write(text);
            }
            text.append("@2");
            if (text.length() > 800 || wrongPlace(text.toString()) >= 0) {
                continue;
            }
            Checks.due(1, Houses.rules(x, text.toString()));
            long[] want = new long[7];
            int day = r.nextInt(20) == 0 ? 1 : 2;
            if (day == 1) {
                want[0] = 4;
            } else {
                judge(want, sides, sign, facts);
            }
            Checks.due(want[0] == 1 ? 1 : 0, x.check(day));
            long[] got = new long[7];
            for (int what = 0; what < 7; what++) {
                got[what] = x.rule(0, what);
            }
            if (!java.util.Arrays.equals(want, got)) {
                throw new AssertionError(text + " " + facts + " answered " + java.util.Arrays.toString(got) + ", due is " + java.util.Arrays.toString(want));
            }
            seen[(int) want[0]]++;
            why[(int) want[5]]++;
        }
        for (int k = 0; k < 5; k++) {
            if (seen[k] < 20 || k < 4 && why[k] < 100) {
                throw new AssertionError("too little is seen: " + java.util.Arrays.toString(seen) + java.util.Arrays.toString(why));
            }
        }
    }

    private static void judge(long[] want, Part[][] sides, String[] sign, Map<String, Integer> facts) {
        try {
            for (int k = 0; k < sides.length; k++) {
                BigInteger[] left = sides[k][0].reckon(facts);
                if (k == 0) {
                    want[1] = left[0].longValueExact();
                    want[2] = left[1].longValueExact();
                }
                BigInteger[] right = sides[k][1].reckon(facts);
                if (k == 0) {
                    want[3] = right[0].longValueExact();
                    want[4] = right[1].longValueExact();
                }
                boolean holds = holds(sign[k], left, right);
                if (k == 0) {
                    want[0] = holds ? 0 : 1;
                    if (holds) {
                        return;
                    }
                } else {
                    want[0] = holds ? 2 : 1;
                    if (!holds) {
                        return;
                    }
                }
            }
        } catch (Open e) {
            want[0] = 3;
            want[5] = e.why;
            want[6] = Houses.word(e.name);
        }
    }
}
