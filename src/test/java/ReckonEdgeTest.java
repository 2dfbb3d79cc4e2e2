/** The edges that promise 8 names of reckoning, asking the rules and building, a test for each of their sentences. */
final class ReckonEdgeTest {
    private static final int LEAST = Integer.MIN_VALUE;
    private static final int GREATEST = Integer.MAX_VALUE;
    private static final long TOP = Long.MAX_VALUE;
    private static final long BOTTOM = Long.MIN_VALUE;
    /** 2^63 - 1 as a factor. */
    private static final String P = "(153092023*92737*649657)";
    /** -2^63 as a factor. */
    private static final String N = "(-" + P + "-1)";
    private static final int MISSING = 1;
    private static final int GREAT = 2;
    private static final int ZERO = 3;

    private ReckonEdgeTest() {
    }

    static void all() {
        Checks.test("P8 edge: 'in lowest terms, the lower one above 0'", ReckonEdgeTest::lowestTerms);
        Checks.test("P8 edge: sums that are no 64-bit numbers", ReckonEdgeTest::greatSums);
        Checks.test("P8 edge: products that are no 64-bit numbers", ReckonEdgeTest::greatProducts);
        Checks.test("P8 edge: '-2^63 by itself is 1 / 1', 'a changed sign, is no 64-bit number'", ReckonEdgeTest::changedSigns);
        Checks.test("P8 edge: 'the - of a first term is 0 / 1 less it'", ReckonEdgeTest::firstMinus);
        Checks.test("P8 edge: ZERO, 'by 0'", ReckonEdgeTest::byZero);
        Checks.test("P8 edge: OPEN 'for the first of these that is met', 'from left to right'", ReckonEdgeTest::firstMet);
        Checks.test("P8 edge: 'a / b is less than c / d if a d is less than c b, and so on'", ReckonEdgeTest::compared);
        Checks.test("P8 edge: what is compared may be GREAT", ReckonEdgeTest::greatCompared);
        Checks.test("P8 edge: LATER, 'if the day is below its own'", ReckonEdgeTest::later);
        Checks.test("P8 edge: exceptions, 'the first that does not hold ends that'", ReckonEdgeTest::exceptions);
        Checks.test("P8 edge: check, 'a day (0 .. 10^6)', 'how many are BROKEN'", ReckonEdgeTest::checkDays);
        Checks.test("P8 edge: rule, '0 and 0 if it was not reckoned', 'the name that is MISSING, 0 for none'", ReckonEdgeTest::notReckoned);
        Checks.test("P8 edge: rule, 'it was not asked since it was read', 'what is none of these'", ReckonEdgeTest::ruleCalls);
        Checks.test("P8 edge: rule, 'as it was asked last'", ReckonEdgeTest::askedLast);
        Checks.test("P8 edge: build, 'if all that there are HOLD, are EXCEPTED or LATER'", ReckonEdgeTest::refusedBuilding);
        Checks.test("P8 edge: build, 'it is BUILT, or as for count(), or there are no spaces, or more than 40'", ReckonEdgeTest::buildStates);
    }

    private static TowerHouse asked(String rules) {
        TowerHouse x = new TowerHouse();
        x.fact('m', -3);
        x.fact('z', 0);
        x.fact(Houses.word("big"), 1000000000);
        x.fact(Houses.word("low"), -1000000000);
        if (Houses.rules(x, rules) < 0) {
            throw new AssertionError("a wrong text: " + rules);
        }
        x.check(0);
        return x;
    }

    private static void reckoned(long up, long low, String side) {
        TowerHouse x = asked("a:" + side + "=0;b:0=" + side);
        Checks.row(Checks.of(up, low), Checks.of(x.rule(0, 1), x.rule(0, 2)));
        Checks.row(Checks.of(up, low), Checks.of(x.rule(1, 3), x.rule(1, 4)));
        Checks.due(0, x.rule(0, 5));
    }

    private static void open(int why, String side) {
        TowerHouse x = asked("a:" + side + "=1;b:1=" + side + ";c:1>1!" + side + "=1");
        for (int rule = 0; rule < 3; rule++) {
            Checks.due(3, x.rule(rule, 0));
            Checks.due(why, x.rule(rule, 5));
        }
        Checks.row(Checks.of(0, 0, 0, 0), sides(x, 0));
        Checks.row(Checks.of(1, 1, 0, 0), sides(x, 1));
        Checks.row(Checks.of(1, 1, 1, 1), sides(x, 2));
        Checks.due(0, x.check(0));
    }

    private static long[] sides(TowerHouse x, int rule) {
        return Checks.of(x.rule(rule, 1), x.rule(rule, 2), x.rule(rule, 3), x.rule(rule, 4));
    }

    private static void lowestTerms() {
        reckoned(0, 1, "0/7");
        reckoned(0, 1, "0/m");
        reckoned(0, 1, "z*m");
        reckoned(0, 1, "1/3-1/3");
        reckoned(1, 1, "7/7");
        reckoned(1, 1, "m/m");
        reckoned(-1, 1, "3/m");
        reckoned(2, 3, "4/6");
        reckoned(-2, 3, "2/m");
        reckoned(1, 2, "1/6+1/3");
        reckoned(1, 3, "1/2*2/3");
        reckoned(1000000000, 1, "big");
        reckoned(-1000000000, 1, "low");
        reckoned(-1, 1, "big/low");
        reckoned(1, 1, "low/low");
    }

    private static void greatSums() {
        reckoned(TOP, 1, P);
        reckoned(TOP, 1, P + "+0");
        reckoned(TOP, 1, P + "-0");
        reckoned(TOP - 1, 1, P + "-1");
        open(GREAT, P + "+1");
        open(GREAT, "1+" + P);
        open(GREAT, P + "-(-1)");
        reckoned(-TOP, 1, "-" + P);
        reckoned(BOTTOM, 1, "-" + P + "-1");
        reckoned(BOTTOM, 1, N);
        open(GREAT, "-" + P + "-2");
        open(GREAT, N + "-1");
        open(GREAT, N + "+(-1)");
        open(GREAT, N + "+" + N);
        reckoned(-1, 1, N + "+" + P);
        reckoned(-1, 1, P + "+" + N);
        reckoned(0, 1, N + "-" + N);
        open(GREAT, P + "-" + N);
        open(GREAT, "0-" + N);
        reckoned(TOP, 1, "-1-" + N);
        // 2 / P has too great a sum of 1 / P and 1 / P, for the products come first.
        open(GREAT, "1/" + P + "+1/" + P);
        open(GREAT, "1/" + P + "-1/" + P);
    }

    private static void greatProducts() {
        reckoned(TOP, 1, P + "*1");
        reckoned(-TOP, 1, P + "*(-1)");
        reckoned(BOTTOM, 1, N + "*1");
        reckoned(BOTTOM, 1, "1*" + N);
        open(GREAT, N + "*(-1)");
        open(GREAT, "(-1)*" + N);
        open(GREAT, N + "*2");
        open(GREAT, P + "*2");
        open(GREAT, P + "*" + P);
        open(GREAT, P + "*m");
        reckoned(0, 1, P + "*0");
        reckoned(0, 1, N + "*0");
        reckoned(0, 1, "0*" + N);
        // The products come before what divides both is taken out.
        open(GREAT, "1/2*" + P + "*2");
        open(GREAT, P + "/2*2");
        reckoned(TOP, 2, P + "/2");
        open(GREAT, P + "/2/" + P);
        open(GREAT, "1/" + P + "/2");
        reckoned(1, TOP, "1/" + P);
        open(GREAT, "1/" + P + "*1/2");
        // 2^32 and 2^31: their product is 2^63.
        open(GREAT, "65536*65536*65536*32768");
        reckoned(BOTTOM, 1, "65536*65536*65536*(-32768)");
        reckoned(1L << 62, 1, "65536*65536*65536*16384");
        open(GREAT, "999999999*999999999*999999999");
    }

    private static void changedSigns() {
        reckoned(1, 1, N + "/" + N);
        reckoned(BOTTOM, 1, N + "/1");
        open(GREAT, N + "/(-1)");
        reckoned(1L << 62, 1, N + "/(-2)");
        reckoned(-(1L << 62), 1, N + "/2");
        open(GREAT, "1/" + N);
        open(GREAT, "m/" + N);
        reckoned(-1, 1L << 62, "2/" + N);
        reckoned(1, 1L << 62, "(-2)/" + N);
        reckoned(0, 1, "0/" + N);
        open(GREAT, N + "/m");
        reckoned(-1, 1, N + "/65536/65536/65536/32768");
        reckoned(TOP, 3, "-" + P + "/m");
        reckoned(-TOP, 5, P + "/(-5)");
        open(GREAT, P + "/" + N);
    }

    private static void firstMinus() {
        reckoned(-TOP, 1, "-" + P);
        open(GREAT, "-" + N);
        reckoned(0, 1, "-" + N + "*0");
        reckoned(0, 1, "-(" + N + "*0)");
        // Only the first term's sign is changed, behind its factors.
        reckoned(-1, 1, "-2+1");
        reckoned(-5, 1, "-2*3+1");
        reckoned(-1, 2, "-1/2");
        reckoned(3, 1, "-m");
        reckoned(-3, 1, "-(-m)");
        reckoned(0, 1, "-0");
        reckoned(0, 1, "-z");
        open(MISSING, "-q");
        open(ZERO, "-1/z");
    }

    private static void byZero() {
        open(ZERO, "1/0");
        open(ZERO, "0/0");
        open(ZERO, "1/z");
        open(ZERO, "m/(3-3)");
        open(ZERO, "1/(1/2-1/2)");
        open(ZERO, "1/(0/5)");
        open(ZERO, P + "/0");
        open(ZERO, N + "/0");
        open(ZERO, "1/" + P + "/0");
        open(ZERO, "1/0*0");
        reckoned(0, 1, "0/1");
    }

    private static void firstMet() {
        open(MISSING, "q/0");
        open(ZERO, "1/0/q");
        open(ZERO, "1/0+q");
        open(MISSING, "q+1/0");
        open(GREAT, P + "*2+q");
        open(MISSING, "q+" + P + "*2");
        open(GREAT, P + "*2/0");
        open(ZERO, "1/0*(" + P + "*2)");
        open(MISSING, "1/(q-q)");
        open(MISSING, "0*q");
        // A product is reckoned before the sum in which it is.
        open(ZERO, P + "+1/0+q");
        open(GREAT, P + "+1+1/0");
        // The left side first; the right one is not reckoned when that is OPEN.
        TowerHouse x = asked("a:1/0=q;b:q=1/0;c:" + P + "*2=q;d:q=r;e:1=1/0!q=1");
        long[] why = {ZERO, MISSING, GREAT, MISSING, ZERO};
        for (int k = 0; k < 5; k++) {
            Checks.due(3, x.rule(k, 0));
            Checks.due(why[k], x.rule(k, 5));
        }
        Checks.due('q', x.rule(1, 6));
        Checks.due('q', x.rule(3, 6));
        Checks.due(0, x.rule(2, 6));
    }

    /** What a rule of two sides answers with each of the five signs, in the order < <= = >= >. */
    private static void answers(String left, String right, int... due) {
        String[] signs = {"<", "<=", "=", ">=", ">"};
        for (int k = 0; k < 5; k++) {
            Checks.due(due[k], asked("a:" + left + signs[k] + right).rule(0, 0));
        }
    }

    private static void compared() {
        answers("1", "2", 0, 0, 1, 1, 1);
        answers("2", "2", 1, 0, 0, 0, 1);
        answers("2", "1", 1, 1, 1, 0, 0);
        answers("1/3", "1/2", 0, 0, 1, 1, 1);
        answers("-1/3", "-1/2", 1, 1, 1, 0, 0);
        answers("2/4", "3/6", 1, 0, 0, 0, 1);
        answers("-1", "0", 0, 0, 1, 1, 1);
        answers(N, P, 0, 0, 1, 1, 1);
        answers(P, P, 1, 0, 0, 0, 1);
        answers(N, N, 1, 0, 0, 0, 1);
        answers("1/" + P, "1/" + P, 1, 0, 0, 0, 1);
        answers(P + "-1", P, 0, 0, 1, 1, 1);
        answers("0", "1/" + P, 0, 0, 1, 1, 1);
    }

    private static void greatCompared() {
        answers(P, "1/2", 3, 3, 3, 3, 3);
        answers("1/2", P, 3, 3, 3, 3, 3);
        answers(N, "1/2", 3, 3, 3, 3, 3);
        answers("-1/2", N, 3, 3, 3, 3, 3);
        answers("1/" + P, "2", 3, 3, 3, 3, 3);
        answers("1/" + P, "1", 0, 0, 1, 1, 1);
        answers("1/2", "0", 1, 1, 1, 0, 0);
        answers(P + "/2", "0", 1, 1, 1, 0, 0);
        answers(P + "/2", P + "/3", 3, 3, 3, 3, 3);
        TowerHouse x = asked("a:" + P + "=1/2");
        Checks.row(Checks.of(TOP, 1, 1, 2), sides(x, 0));
        Checks.due(GREAT, x.rule(0, 5));
        Checks.due(0, x.rule(0, 6));
        // In an exception, too.
        TowerHouse y = asked("a:1=2!" + P + "=1/2");
        Checks.due(3, y.rule(0, 0));
        Checks.due(GREAT, y.rule(0, 5));
        Checks.row(Checks.of(1, 1, 2, 1), sides(y, 0));
    }

    private static void later() {
        TowerHouse x = new TowerHouse();
        Houses.rules(x, "a:1=2@0;b:1=2@1;c:1=2@999999;d:1=2@1000000;e:1=2@1000001;f:1=2@999999999;g:q=1@7");
        int[] days = {0, 1, 6, 7, 999998, 999999, 1000000};
        int[] broken = {1, 2, 2, 2, 2, 3, 4};
        for (int k = 0; k < days.length; k++) {
            Checks.due(broken[k], x.check(days[k]));
            Checks.due(days[k] < 7 ? 4 : 3, x.rule(6, 0));
            Checks.due(4, x.rule(4, 0));
            Checks.due(4, x.rule(5, 0));
        }
        // A rule that is LATER has no sides and no reason.
        x.check(6);
        for (int what = 1; what < 7; what++) {
            Checks.due(0, x.rule(6, what));
        }
    }

    private static void exceptions() {
        TowerHouse x = asked("a:1=1!q=1;b:1=2;c:1=2!1=1;d:1=2!1=2;e:1=2!1=1!1=2!q=1;f:1=2!1=1!q=1!1=2;g:1=2!1=1!1=1!1=1;h:q=1!1=1");
        long[] due = {0, 1, 2, 1, 1, 3, 2, 3};
        for (int k = 0; k < due.length; k++) {
            Checks.due(due[k], x.rule(k, 0));
        }
        // Sides are those of the clause, not of an exception.
        Checks.row(Checks.of(1, 1, 2, 1), sides(x, 2));
        Checks.row(Checks.of(1, 1, 2, 1), sides(x, 5));
        Checks.due('q', x.rule(5, 6));
        Checks.due(0, x.rule(4, 6));
        Checks.due(3, x.check(0));
    }

    private static void checkDays() {
        TowerHouse x = new TowerHouse();
        int[] wrong = {-1, 1000001, LEAST, GREATEST};
        for (int v : wrong) {
            Checks.argument(() -> x.check(v));
        }
        Checks.due(0, x.check(0));
        Checks.due(0, x.check(1000000));
        StringBuilder text = new StringBuilder();
        for (int k = 0; k < 12; k++) {
            text.append((char) ('a' + k)).append(":1=2;");
        }
        Houses.rules(x, text.toString());
        // A day that is refused asks nothing.
        Checks.argument(() -> x.check(-1));
        Checks.state(() -> x.rule(0, 0));
        Checks.due(12, x.check(1000000));
        // Neither EXCEPTED, nor OPEN, nor LATER counts.
        Houses.rules(x, "a:1=2!1=1;b:q=1;c:1=2@1;d:1=1;e:1=2");
        Checks.due(1, x.check(0));
    }

    private static void notReckoned() {
        TowerHouse x = asked("a:1/0=5;b:5=1/0;c:abcdefgh=1;d:1=2!1=zzzzzzzz;e:1=1@1;f:q+" + P + "*2=1");
        Checks.row(Checks.of(0, 0, 0, 0), sides(x, 0));
        Checks.row(Checks.of(5, 1, 0, 0), sides(x, 1));
        Checks.row(Checks.of(0, 0, 0, 0), sides(x, 2));
        Checks.row(Checks.of(1, 1, 2, 1), sides(x, 3));
        Checks.row(Checks.of(0, 0, 0, 0), sides(x, 4));
        Checks.due(0, x.rule(0, 6));
        Checks.due(Houses.word("abcdefgh"), x.rule(2, 6));
        Checks.due(Houses.word("zzzzzzzz"), x.rule(3, 6));
        Checks.due(0, x.rule(4, 5));
        Checks.due('q', x.rule(5, 6));
        // Asked again with the fact there, nothing of that is left.
        x.fact(Houses.word("abcdefgh"), 1);
        x.check(0);
        Checks.due(0, x.rule(2, 0));
        Checks.due(0, x.rule(2, 5));
        Checks.due(0, x.rule(2, 6));
        Checks.row(Checks.of(1, 1, 1, 1), sides(x, 2));
    }

    private static void ruleCalls() {
        TowerHouse x = new TowerHouse();
        x.check(0);
        Checks.argument(() -> x.rule(0, 0));
        StringBuilder text = new StringBuilder();
        for (int k = 0; k < 12; k++) {
            text.append((char) ('a' + k)).append(":1=1;");
        }
        Houses.rules(x, text.toString());
        Checks.state(() -> x.rule(11, 6));
        Checks.argument(() -> x.rule(12, 6));
        Checks.argument(() -> x.rule(11, 7));
        x.check(0);
        Checks.due(0, x.rule(11, 6));
        Checks.due(1, x.rule(11, 1));
        int[] noRule = {-1, 12, LEAST, GREATEST};
        int[] noWhat = {-1, 7, LEAST, GREATEST};
        for (int v : noRule) {
            Checks.argument(() -> x.rule(v, 0));
        }
        for (int v : noWhat) {
            Checks.argument(() -> x.rule(0, v));
        }
        // Fewer rules than before: the others are gone.
        Houses.rules(x, "a:1=1");
        x.check(0);
        Checks.due(0, x.rule(0, 0));
        Checks.argument(() -> x.rule(1, 0));
    }

    private static void askedLast() {
        TowerHouse x = asked("a:y=1");
        Checks.due(3, x.rule(0, 0));
        x.fact('y', 1);
        Checks.due(3, x.rule(0, 0));
        Checks.due('y', x.rule(0, 6));
        x.check(0);
        x.fact('y', 2);
        Checks.due(0, x.rule(0, 0));
        // A building asks them, too, also one that does not come to be; one that is an illegal state does not.
        Checks.state(() -> x.build(0));
        Checks.due(0, x.rule(0, 0));
        PlanTest.square(x, 0, 0, 2);
        x.find();
        Checks.argument(() -> x.build(-1));
        Checks.due(0, x.rule(0, 0));
        Checks.due(-1, x.build(0));
        Checks.due(1, x.rule(0, 0));
        Checks.due(2, x.rule(0, 1));
    }

    private static void refusedBuilding() {
        TowerHouse x = Houses.fourPlanned();
        x.find();
        Houses.rules(x, "a:1=1;b:1=2!1=1;c:1=2@9;d:f=1;e:1=2@5");
        Checks.due(-4, x.build(0));
        Checks.state(() -> x.told(0));
        Checks.due(0, x.name(0, 5));
        Checks.due(-3, x.build(9));
        x.fact('f', 2);
        Checks.due(-4, x.build(4));
        x.fact('f', 1);
        Checks.due(-5, x.build(5));
        Checks.due(-3, x.build(9));
        Checks.due(6, x.build(4));
        Checks.due(0, x.told(8));
        // Rules that there were before do not count, broken as they were; nor do those behind the last one of twelve.
        TowerHouse z = Houses.fourPlanned();
        z.find();
        StringBuilder twelve = new StringBuilder();
        for (int k = 0; k < 12; k++) {
            twelve.append((char) ('a' + k)).append(":f=0;");
        }
        z.fact('f', 1);
        Houses.rules(z, twelve.toString());
        Checks.due(-1, z.build(0));
        Houses.rules(z, twelve.substring(0, 6));
        Checks.due(-1, z.build(0));
        Houses.rules(z, twelve.toString());
        z.fact('f', 0);
        Checks.due(6, z.build(0));
        TowerHouse w = Houses.fourPlanned();
        w.find();
        Houses.rules(w, "a:1=1;b:1=2");
        Checks.due(1, w.check(0));
        Houses.rules(w, "a:1=1");
        Checks.due(0, w.check(0));
        Checks.due(6, w.build(0));
        // Without rules nothing stands against it.
        TowerHouse y = Houses.fourPlanned();
        y.find();
        Checks.due(6, y.build(1000000));
    }

    private static void buildStates() {
        TowerHouse x = new TowerHouse();
        int[] wrong = {-1, 1000001, LEAST, GREATEST};
        for (int v : wrong) {
            Checks.argument(() -> x.build(v));
        }
        Checks.state(() -> x.build(0));
        x.find();
        Checks.state(() -> x.build(0));
        PlanTest.square(x, 0, 0, 2);
        Checks.state(() -> x.build(0));
        x.find();
        x.move(0, 0, 0);
        Checks.state(() -> x.build(0));
        x.find();
        // One space, and no portal.
        Checks.due(0, x.build(0));
        Checks.state(() -> x.build(0));
        Checks.state(() -> x.build(1000000));
        for (int v : wrong) {
            Checks.argument(() -> x.build(v));
        }
        // 40 spaces are built, 41 are not.
        TowerHouse y = PermitTest.comb(new TowerHouse());
        y.line(20, 20, 22, 20);
        Checks.due(40, y.find());
        Checks.due(0, y.build(0));
        // 9 lines across and 6 upright; with half of one more upright there is a 41st.
        TowerHouse z = PermitTest.comb(new TowerHouse());
        z.line(1, 0, 1, 1);
        Checks.due(41, z.find());
        Checks.state(() -> z.build(0));
        Checks.due(true, z.move(15, 0, 9));
        Checks.due(40, z.find());
        Checks.due(0, z.build(0));
        Checks.due(0, z.signal(49, 1));
        Checks.argument(() -> z.signal(50, 1));
    }
}
