/** Promises 6 to 8: the text of the rules, facts, and what the rules answer. */
final class PermitTest {
    private PermitTest() {
    }

    static void all() {
        Checks.test("P6 say: bytes, highest first, 0 left out", PermitTest::says);
        Checks.test("P6 say: at most 800", PermitTest::sayFull);
        Checks.test("P6 trim: takes from the end", PermitTest::trims);
        Checks.test("P7 rules: good texts", PermitTest::goodTexts);
        Checks.test("P7 rules: the first wrong word", PermitTest::wrongWords);
        Checks.test("P7 rules: limits of words, rules, parentheses", PermitTest::limits);
        Checks.test("P7 rules: what is wrong changes nothing", PermitTest::wrongChangesNothing);
        Checks.test("P7 fact: values, names, at most 40", PermitTest::facts);
        Checks.test("P7 measure: sizes become facts", PermitTest::measures);
        Checks.test("P8 check: holds, broken, excepted, later", PermitTest::outcomes);
        Checks.test("P8 check: what is open, and why", PermitTest::open);
        Checks.test("P8 rule: sides and wrong calls", PermitTest::answers);
        Checks.test("P8 reckoning: lowest terms, order, signs", PermitTest::reckoning);
        Checks.test("P8 reckoning: the edge of 64 bits", PermitTest::edges);
        Checks.test("P8 build: refused by a rule, and by the state", PermitTest::builds);
    }

    private static void says() {
        TowerHouse x = new TowerHouse();
        Checks.due(0, x.say(0));
        Checks.due(3, x.say(0x6100003a00003100L));
        Checks.due(10, x.say(Houses.word(" =1;b:2")));
        Checks.argument(() -> x.say(31));
        Checks.argument(() -> x.say(127));
        Checks.argument(() -> x.say(10));
        Checks.argument(() -> x.say(-1));
        Checks.argument(() -> x.say(0x8000000000000020L));
        Checks.due(11, x.say(126));
        Checks.due(10, x.trim(1));
        Checks.due(10, x.say(0));
        Checks.due(12, x.say(0x3d32L));
        // It says a:1 =1;b:2=2.
        Checks.due(2, x.rules());
        Checks.due(0, x.say(0));
    }

    private static void sayFull() {
        TowerHouse x = new TowerHouse();
        for (int k = 1; k <= 99; k++) {
            Checks.due(8 * k, x.say(0x2020202020202020L));
        }
        Checks.due(799, x.say(0x20202020202020L));
        Checks.state(() -> x.say(0x2020L));
        Checks.argument(() -> x.say(0x201fL));
        Checks.due(800, x.say(0x2000L));
        Checks.due(800, x.say(0));
        Checks.state(() -> x.say(0x20L));
        Checks.due(-801, x.rules());
        Checks.due(0, x.trim(800));
    }

    private static void trims() {
        TowerHouse x = new TowerHouse();
        Checks.due(0, x.trim(0));
        Checks.argument(() -> x.trim(1));
        Checks.argument(() -> x.trim(-1));
        Houses.say(x, "a:1=1 x");
        Checks.due(5, x.trim(2));
        Checks.argument(() -> x.trim(6));
        Checks.argument(() -> x.trim(Integer.MIN_VALUE));
        Checks.due(1, x.rules());
        Checks.argument(() -> x.trim(1));
        // What was taken away is in no word, also if the text is full.
        Houses.rules(x, "a:1=xyz9");
        x.trim(8);
        Houses.say(x, "a:1=xyz9");
        x.trim(2);
        Checks.due(1, x.rules());
        x.check(0);
        Checks.due(Houses.word("xy"), x.rule(0, 6));
        for (int k = 0; k < 99; k++) {
            x.say(0x2020202020202020L);
        }
        Houses.say(x, "a:12=abc");
        Checks.due(1, x.rules());
        for (int k = 0; k < 99; k++) {
            x.say(0x2020202020202020L);
        }
        Houses.say(x, "a:x=1234");
        Checks.due(1, x.rules());
        for (int k = 0; k < 99; k++) {
            x.say(0x2020202020202020L);
        }
        Houses.say(x, "a:xyz=1<");
        Checks.due(-1 - 799, x.rules());
        TowerHouse y = Houses.four();
        Checks.due(1, y.say(65));
        Checks.due(0, y.trim(1));
    }

    private static void goodTexts() {
        TowerHouse x = new TowerHouse();
        Checks.due(1, Houses.rules(x, "a:1<2"));
        Checks.due(1, Houses.rules(x, "  abcdefgh :-(1+2)*3/4-5>=-x ; "));
        Checks.due(2, Houses.rules(x, "a:1<=2!1=1!2>3@999999999;b:((1))>0@0"));
        Checks.due(1, Houses.rules(x, "a:1<2@1;"));
        Checks.due(2, Houses.rules(x, "a:a<a;b:a=b"));
        TowerHouse y = Houses.four();
        Checks.due(1, Houses.rules(y, "a:1<2"));
    }

    private static void wrong(int place, String text) {
        Checks.due(-1 - place, Houses.rules(new TowerHouse(), text));
    }

    private static void wrongWords() {
        wrong(0, "");
        wrong(3, "   ");
        wrong(0, "1:1=1");
        wrong(1, "a");
        wrong(2, "a:");
        wrong(2, "a 1=1");
        wrong(3, "a:1");
        wrong(4, "a:1 ");
        wrong(4, "a:1=");
        wrong(3, "a:1:");
        wrong(5, "a:1=1=1");
        wrong(4, "a:1==1");
        wrong(5, "a:1< =1");
        wrong(4, "a:1=<1");
        wrong(5, "a:1<=>1");
        wrong(6, "a:1<2 3");
        wrong(6, "a:1<2 x");
        wrong(3, "a:1x<2");
        wrong(5, "a:1<2:");
        wrong(6, "a:1<2;;");
        wrong(6, "a:1<2;1:2=2");
        wrong(7, "a:1<2; a:1<2");
        wrong(5, "a:1=1)");
        wrong(4, "a:(1=1)");
        wrong(5, "a:(1 =1)");
        wrong(5, "a:1* -2=1");
        wrong(4, "a:1*-2=1");
        wrong(3, "a:--1=1");
        wrong(2, "a:+1=1");
        wrong(2, "a:=1");
        wrong(5, "a:1+(=1");
        wrong(6, "a:1=1@");
        wrong(6, "a:1=1@x");
        wrong(7, "a:1=1@2@3");
        wrong(7, "a:1=1@2!1=1");
        wrong(7, "a:1=1@2+1");
        wrong(6, "a:1=1!");
        wrong(7, "a:1=1!2");
        wrong(8, "a:1=1!2 ");
        wrong(2, "a:A=1");
        wrong(2, "a:#=1");
        wrong(2, "a:_=1");
        wrong(4, "a:1 .5=1");
        wrong(3, "a:1.5=1");
        wrong(2, "a:1234567890=1");
        wrong(0, "abcdefghi:1=1");
        wrong(4, "a:1=abcdefghi");
        wrong(14, "a:123456789=1 1");
        wrong(3, "a:1&1");
    }

    private static void limits() {
        TowerHouse x = new TowerHouse();
        StringBuilder twelve = new StringBuilder();
        for (int k = 0; k < 12; k++) {
            twelve.append((char) ('a' + k)).append(":1=1;");
        }
        Checks.due(12, Houses.rules(x, twelve.toString()));
        wrong(72, twelve + "z:1=1");
        wrong(73, twelve + " a:1=1");
        wrong(72, twelve + ";");
        // 5 words, and two more for each + 1: 119 of them, then 120 with the ; at the end, then 121.
        StringBuilder many = new StringBuilder("a:1=1");
        for (int k = 0; k < 57; k++) {
            many.append("+1");
        }
        Checks.due(1, Houses.rules(x, many.toString()));
        Checks.due(1, Houses.rules(x, many + " ; "));
        wrong(many.length() + 1, many + ";b");
        wrong(many.length() + 1, many + "++1");
        wrong(many.length() + 1, many + "+1");
        wrong(many.length() + 1, many + "+");
        wrong(many.length() + 3, many + "+  1");
        // 120 words are reckoned up to the last one.
        Checks.due(1, Houses.rules(x, "a:-1=" + many.substring(4, many.length() - 2) + "+3"));
        Checks.due(1, x.check(0));
        Checks.row(Checks.of(-1, 1, 60, 1), sides(x, 0));
        Checks.due(1, Houses.rules(x, "a:((((((((1))))))))=1"));
        wrong(10, "a:(((((((((1)))))))))=1");
        Checks.due(1, Houses.rules(x, "a:((((((((1))))))))=((((((((x))))))))+((((((((1))))))))"));
    }

    private static void wrongChangesNothing() {
        TowerHouse x = new TowerHouse();
        Houses.rules(x, "a:1=1");
        x.check(0);
        Checks.due(-1 - 5, Houses.rules(x, "a:2=1)"));
        Checks.due(6, x.say(0));
        Checks.due(0, x.check(0));
        Checks.due(1, x.rule(0, 1));
        Checks.argument(() -> x.rule(1, 0));
    }

    private static void facts() {
        TowerHouse x = new TowerHouse();
        Checks.due(TowerHouse.UNKNOWN, x.fact(Houses.word("a"), -1000000000));
        Checks.due(-1000000000, x.fact(Houses.word("a"), 1000000000));
        Checks.due(1000000000, x.fact(Houses.word("a"), 0));
        Checks.due(TowerHouse.UNKNOWN, x.fact(Houses.word("zzzzzzzz"), 1));
        Checks.due(TowerHouse.UNKNOWN, x.fact(Houses.word("aa"), 2));
        Checks.argument(() -> x.fact(0, 0));
        Checks.argument(() -> x.fact(Houses.word("a"), 1000000001));
        Checks.argument(() -> x.fact(Houses.word("a"), -1000000001));
        Checks.argument(() -> x.fact(Houses.word("A"), 0));
        Checks.argument(() -> x.fact(Houses.word("a1"), 0));
        Checks.argument(() -> x.fact(0x610061, 0));
        Checks.argument(() -> x.fact(Houses.word("Aaaaaaaa"), 0));
        Checks.argument(() -> x.fact(0x8061616161616161L, 0));
        Checks.argument(() -> x.fact(0x6100000000000000L, 0));
        Checks.argument(() -> x.fact(0x6100, 0));
        Checks.argument(() -> x.fact(-1, 0));
        Checks.argument(() -> x.fact(0x7b, 0));
        Checks.argument(() -> x.fact(0x60, 0));
        for (int k = 3; k < 40; k++) {
            x.fact(0x6200 + 'a' + k % 20 + (k / 20 << 16) + (k / 20 * 0x610000), k);
        }
        Checks.state(() -> x.fact(Houses.word("new"), 0));
        Checks.argument(() -> x.fact(Houses.word("new"), 1000000001));
        Checks.due(0, x.fact(Houses.word("a"), 3));
        Checks.due(3, x.fact(Houses.word("a"), 3));
    }

    private static void measures() {
        TowerHouse x = Houses.fourPlanned();
        Checks.argument(() -> x.measure(0, 0, Houses.word("a")));
        x.find();
        Checks.due(16, x.measure(0, 0, Houses.word("a")));
        Checks.due(16, x.measure(0, 1, Houses.word("a")));
        Checks.due(1, x.measure(3, 2, Houses.word("r")));
        Checks.due(16, x.fact(Houses.word("a"), 1));
        Checks.due(1, x.fact(Houses.word("r"), 1));
        Checks.argument(() -> x.measure(4, 0, Houses.word("a")));
        Checks.argument(() -> x.measure(-1, 0, Houses.word("a")));
        Checks.argument(() -> x.measure(0, 3, Houses.word("a")));
        Checks.argument(() -> x.measure(0, 0, 5));
        for (int k = 2; k < 40; k++) {
            x.fact(0x626100 + 'a' + k % 20 + (k / 20 << 8), k);
        }
        Checks.state(() -> x.measure(0, 0, Houses.word("new")));
        Checks.due(16, x.measure(0, 0, Houses.word("a")));
        x.line(20, 20, 21, 20);
        Checks.state(() -> x.measure(0, 0, Houses.word("a")));
        Checks.argument(() -> x.measure(0, 3, Houses.word("a")));
        x.find();
        x.build(0);
        Checks.due(16, x.measure(1, 0, Houses.word("a")));
    }

    private static void outcomes() {
        TowerHouse x = new TowerHouse();
        Checks.due(0, x.check(0));
        Houses.rules(x, "a:1=1;b:1>1;c:1>1!2>1!3>=3;d:1<1!1=2!1/0=1;e:1>1@5;f:1>1!1=1!2=1");
        Checks.due(3, x.check(4));
        long[] status = {0, 1, 2, 1, 4, 1};
        for (int k = 0; k < 6; k++) {
            Checks.due(status[k], x.rule(k, 0));
        }
        Checks.due(4, x.check(5));
        Checks.due(1, x.rule(4, 0));
        Checks.due(3, x.check(0));
        Checks.due(0, x.rule(4, 1));
        Checks.due(0, x.rule(4, 2));
        Checks.argument(() -> x.check(-1));
        Checks.argument(() -> x.check(1000001));
        Checks.due(4, x.check(1000000));
        Houses.rules(x, "a:1<2;b:2<2;c:2<=2;d:3<=2;e:2>=2;f:1>=2;g:2>1;h:2>2;i:1=2;j:-1/2<-1/3");
        x.check(0);
        long[] signs = {0, 1, 0, 1, 0, 1, 0, 1, 1, 0};
        for (int k = 0; k < signs.length; k++) {
            Checks.due(signs[k], x.rule(k, 0));
        }
    }

    private static void open() {
        TowerHouse x = new TowerHouse();
        x.fact(Houses.word("n"), 0);
        Houses.rules(x, "a:x=1;b:1=y;c:1/n=1;d:1>1!z=1;e:1/0+x=1;f:x+1/0=1;g:0*x=0;h:1=1!x=1;i:1>1!1>1!x=1;j:1>1!1=1!1/0=1");
        Checks.due(1, x.check(0));
        long[] status = {3, 3, 3, 3, 3, 3, 3, 0, 1, 3};
        long[] why = {1, 1, 3, 1, 3, 1, 1, 0, 0, 3};
        String[] missing = {"x", "y", "", "z", "", "x", "x", "", "", ""};
        for (int k = 0; k < status.length; k++) {
            Checks.due(status[k], x.rule(k, 0));
            Checks.due(why[k], x.rule(k, 5));
            Checks.due(Houses.word(missing[k]), x.rule(k, 6));
        }
        // What was reckoned before stays told.
        Checks.row(Checks.of(0, 0, 0, 0), sides(x, 0));
        Checks.row(Checks.of(1, 1, 0, 0), sides(x, 1));
        Checks.row(Checks.of(0, 0, 0, 0), sides(x, 2));
        Checks.row(Checks.of(1, 1, 1, 1), sides(x, 3));
        Checks.row(Checks.of(1, 1, 1, 1), sides(x, 9));
    }

    private static long[] sides(TowerHouse x, int rule) {
        return Checks.of(x.rule(rule, 1), x.rule(rule, 2), x.rule(rule, 3), x.rule(rule, 4));
    }

    private static void answers() {
        TowerHouse x = new TowerHouse();
        Checks.argument(() -> x.rule(0, 0));
        Houses.rules(x, "a:6/4=-3/9;b:1=1@7");
        Checks.state(() -> x.rule(0, 0));
        Checks.argument(() -> x.rule(2, 0));
        Checks.argument(() -> x.rule(-1, 0));
        Checks.argument(() -> x.rule(0, 7));
        Checks.argument(() -> x.rule(0, -1));
        x.check(0);
        Checks.row(Checks.of(3, 2, -1, 3), sides(x, 0));
        Checks.row(Checks.of(0, 0, 0, 0), sides(x, 1));
        Checks.due(4, x.rule(1, 0));
        x.check(7);
        Checks.row(Checks.of(1, 1, 1, 1), sides(x, 1));
        Houses.rules(x, "a:1=1");
        Checks.state(() -> x.rule(0, 0));
        Checks.argument(() -> x.rule(1, 0));
    }

    private static void reckoned(long up, long low, String side) {
        TowerHouse x = new TowerHouse();
        x.fact(Houses.word("m"), -3);
        Houses.rules(x, "a:" + side + "=1");
        x.check(0);
        Checks.row(Checks.of(up, low), Checks.of(x.rule(0, 1), x.rule(0, 2)));
    }

    private static void open(int why, String side) {
        TowerHouse x = new TowerHouse();
        x.fact(Houses.word("m"), -3);
        Houses.rules(x, "a:" + side + "=1");
        Checks.due(0, x.check(0));
        Checks.due(3, x.rule(0, 0));
        Checks.due(why, x.rule(0, 5));
        Checks.due(0, x.rule(0, 1));
        Checks.due(0, x.rule(0, 2));
    }

    private static void reckoning() {
        reckoned(5, 6, "1/2+1/3");
        reckoned(1, 6, "1/2-1/3");
        reckoned(-1, 6, "1/3-1/2");
        reckoned(1, 3, "1/2*2/3");
        reckoned(3, 4, "1/2/(2/3)");
        reckoned(-3, 4, "1/2/(-2/3)");
        reckoned(0, 1, "0/5");
        reckoned(0, 1, "0/m");
        reckoned(-1, 3, "1/m");
        reckoned(-6, 1, "-2*3");
        reckoned(-5, 1, "-2-3");
        reckoned(-1, 1, "-(3-2)");
        reckoned(6, 1, "-2*m");
        reckoned(2, 1, "8/2/2");
        reckoned(3, 1, "8-3-2");
        reckoned(7, 1, "1+2*3");
        reckoned(9, 1, "(1+2)*3");
        reckoned(999999999, 1, "999999999");
        open(3, "1/(2-2)");
        open(3, "0/0");
        open(1, "q");
    }

    private static void edges() {
        // 2^62 is 1073741824^2 / 4; 536870912 is 2^29.
        String p62 = "536870912*536870912*16";
        reckoned(1L << 62, 1, p62);
        open(2, p62 + "*2");
        reckoned(Long.MIN_VALUE, 1, "-" + p62 + "-" + p62);
        reckoned(Long.MIN_VALUE, 1, "(-" + p62 + ")*2");
        open(2, p62 + "+" + p62);
        open(2, "-(-" + p62 + "-" + p62 + ")");
        open(2, "0-(-" + p62 + "-" + p62 + ")");
        reckoned(1, 1, "(-" + p62 + "-" + p62 + ")/(-" + p62 + "-" + p62 + ")");
        reckoned(0, 1, "0/(-" + p62 + "-" + p62 + ")");
        open(2, "1/(-" + p62 + "-" + p62 + ")");
        open(2, "(-" + p62 + "-" + p62 + ")/m");
        reckoned(-1, 1L << 62, "2/(-" + p62 + "-" + p62 + ")");
        reckoned(1L << 62, 1, "(-" + p62 + "-" + p62 + ")/(-2)");
        open(2, "(-" + p62 + "-" + p62 + ")*(-1)");
        open(2, "(0-1)*(-" + p62 + "-" + p62 + ")");
        reckoned(Long.MIN_VALUE, 1, "(-" + p62 + "-" + p62 + ")*1");
        // What is compared is multiplied, too, and that may be too great.
        TowerHouse x = new TowerHouse();
        Houses.rules(x, "a:" + p62 + "=" + p62 + "/3;b:" + p62 + "/3=" + p62 + "/3;c:" + p62 + "=" + p62);
        Checks.due(0, x.check(0));
        Checks.due(2, x.rule(0, 5));
        Checks.due(1L << 62, x.rule(0, 3));
        Checks.due(3, x.rule(0, 4));
        Checks.due(2, x.rule(1, 5));
        Checks.due(0, x.rule(2, 0));
    }

    private static void builds() {
        TowerHouse x = new TowerHouse();
        Checks.state(() -> x.build(0));
        Checks.argument(() -> x.build(-1));
        Checks.argument(() -> x.build(1000001));
        x.find();
        Checks.state(() -> x.build(0));
        PlanTest.square(x, 0, 0, 4);
        Checks.state(() -> x.build(0));
        x.find();
        Houses.rules(x, "a:1=1;b:1=2@5;c:x=1;d:1=2!1=1");
        Checks.due(-1 - 2, x.build(0));
        Checks.due(-1 - 1, x.build(5));
        Checks.due(1, x.rule(1, 0));
        Checks.state(() -> x.pass(1));
        x.fact(Houses.word("x"), 1);
        Checks.due(0, x.build(4));
        Checks.due(2, x.rule(3, 0));
        Checks.state(() -> x.build(4));
        Checks.argument(() -> x.build(-1));
        Checks.due(1, x.pass(1));
        // 40 spaces may be built, 41 not.
        Checks.due(40, comb(new TowerHouse()).find());
        TowerHouse y = comb(new TowerHouse());
        y.find();
        Checks.due(0, y.build(1000000));
        // Its points are 40 detectors and 10 switches.
        Checks.due(0, y.signal(49, 100));
        Checks.due(100, y.signal(49, 0));
        Checks.due(0, y.signal(39, 100));
        Checks.argument(() -> y.signal(50, 0));
        y.fire(9, 7);
        y.pass(1);
        Checks.due(10, y.signal(39, 0));
        TowerHouse z = new TowerHouse();
        comb(z);
        z.line(20, 20, 24, 20);
        z.line(20, 24, 24, 24);
        z.line(20, 20, 20, 24);
        z.line(24, 20, 24, 24);
        Checks.due(41, z.find());
        Checks.state(() -> z.build(0));
    }

    /** 9 lines across and 6 upright: 8 by 5 spaces. */
    static TowerHouse comb(TowerHouse x) {
        for (int k = 0; k < 9; k++) {
            x.line(0, k, 10, k);
        }
        for (int k = 0; k < 6; k++) {
            x.line(2 * k, 0, 2 * k, 8);
        }
        return x;
    }
}
