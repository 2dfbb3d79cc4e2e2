/** The edges that promises 6 to 8 name of the text, the rules, facts and building, a test for each of their sentences. */
final class PermitEdgeTest {
    private static final int LEAST = Integer.MIN_VALUE;
    private static final int GREATEST = Integer.MAX_VALUE;

    private PermitEdgeTest() {
    }

    static void all() {
        Checks.test("P6 edge: say, 'a byte is none of 0, 32 .. 126'", PermitEdgeTest::bytes);
        Checks.test("P6 edge: say, 'those that are 0 left out'", PermitEdgeTest::zeros);
        Checks.test("P6 edge: say, 'there would be more than 800'", PermitEdgeTest::fullText);
        Checks.test("P6 edge: trim, 'n is below 0, or more than there are'", PermitEdgeTest::trims);
        Checks.test("P7 edge: rules, 'and it is empty', 'none is asked yet'", PermitEdgeTest::readOnce);
        Checks.test("P7 edge: rules, '-1 less the place of the first wrong word, changing nothing'", PermitEdgeTest::wrongChangesNothing);
        Checks.test("P7 edge: rules, 'at the text's end (behind all its characters), if more must come'", PermitEdgeTest::textEnds);
        Checks.test("P7 edge: rules, NUMBERS of 1 .. 9 digits, NAMES of 1 .. 8 small letters", PermitEdgeTest::longWords);
        Checks.test("P7 edge: rules, '(a = right behind < or > belongs to it)'", PermitEdgeTest::doubleSigns);
        Checks.test("P7 edge: rules, 'a character that is in no word'", PermitEdgeTest::noWords);
        Checks.test("P7 edge: rules, '1 .. 12 rules, all names of which differ'", PermitEdgeTest::twelveRules);
        Checks.test("P7 edge: rules, '120 words at most'", PermitEdgeTest::manyWords);
        Checks.test("P7 edge: rules, '8 parentheses one in the other'", PermitEdgeTest::parentheses);
        Checks.test("P7 edge: rules, 'perhaps a ; at the end', 'perhaps @ NUMBER' behind all", PermitEdgeTest::endsOfRules);
        Checks.test("P7 edge: fact, values are -10^9 .. 10^9", PermitEdgeTest::factValues);
        Checks.test("P7 edge: fact, 'others are no names'", PermitEdgeTest::factNames);
        Checks.test("P7 edge: fact, 'it is new, and there are 40'", PermitEdgeTest::fortyFacts);
        Checks.test("P7 edge: measure, 'as for size(), or for fact()'", PermitEdgeTest::measures);
    }

    private static void bytes() {
        for (int shift = 0; shift < 64; shift += 8) {
            TowerHouse x = new TowerHouse();
            int length = 0;
            for (long c = 1; c < 256; c++) {
                long word = c << shift;
                if (c >= 32 && c <= 126) {
                    length++;
                    Checks.due(length, x.say(word));
                } else {
                    Checks.argument(() -> x.say(word));
                }
            }
            Checks.due(95, x.say(0));
        }
        // One wrong byte among good ones: nothing comes.
        TowerHouse x = new TowerHouse();
        Checks.argument(() -> x.say(Long.MIN_VALUE));
        Checks.argument(() -> x.say(Long.MAX_VALUE));
        Checks.argument(() -> x.say(-1));
        Checks.argument(() -> x.say(0x6161616161616180L));
        Checks.argument(() -> x.say(0x1f61616161616161L));
        Checks.argument(() -> x.say(0x6161617f61616161L));
        Checks.due(0, x.say(0));
        Checks.due(8, x.say(0x7e7e7e7e20202020L));
    }

    private static void zeros() {
        TowerHouse x = new TowerHouse();
        Checks.due(0, x.say(0));
        Checks.due(1, x.say(0x6100000000000000L));
        Checks.due(2, x.say(0x000000003a000000L));
        Checks.due(4, x.say(0x003100000000003dL));
        Checks.due(5, x.say(0x31L));
        Checks.due(1, x.rules());
        x.check(0);
        Checks.due(0, x.rule(0, 0));
    }

    private static void fullText() {
        TowerHouse x = new TowerHouse();
        for (int k = 1; k <= 100; k++) {
            Checks.due(8 * k, x.say(0x6161616161616161L));
        }
        Checks.due(800, x.say(0));
        Checks.state(() -> x.say(0x61));
        Checks.state(() -> x.say(0x6100000000000000L));
        Checks.argument(() -> x.say(0x7f));
        Checks.argument(() -> x.say(0x617f));
        Checks.due(793, x.trim(7));
        Checks.state(() -> x.say(0x6161616161616161L));
        Checks.due(793, x.say(0));
        Checks.due(800, x.say(0x61616161616161L));
        Checks.state(() -> x.say(0x20));
        Checks.due(0, x.trim(800));
        Checks.due(1, x.say(0x20));
        // With one character left, one may come, as any of the bytes.
        for (int k = 0; k < 100; k++) {
            x.say(k < 99 ? 0x6161616161616161L : 0x616161616161L);
        }
        for (int shift = 0; shift < 64; shift += 8) {
            Checks.due(799, x.say(0));
            Checks.state(() -> x.say(0x6161));
            Checks.state(() -> x.say(0x6100000000000061L));
            Checks.due(800, x.say(0x61L << shift));
            Checks.due(799, x.trim(1));
        }
    }

    private static void trims() {
        TowerHouse x = new TowerHouse();
        Checks.due(0, x.trim(0));
        int[] wrong = {-1, 1, LEAST, GREATEST};
        for (int v : wrong) {
            Checks.argument(() -> x.trim(v));
        }
        Houses.say(x, "a:1=1;b");
        Checks.argument(() -> x.trim(8));
        Checks.argument(() -> x.trim(-1));
        Checks.due(7, x.trim(0));
        Checks.due(6, x.trim(1));
        Checks.due(1, x.rules());
        Checks.argument(() -> x.trim(1));
        Houses.say(x, "a");
        Checks.due(0, x.trim(1));
        Checks.due(-1, x.rules());
    }

    private static void readOnce() {
        TowerHouse x = new TowerHouse();
        Houses.say(x, "a:1=2;b:1=1");
        Checks.due(2, x.rules());
        Checks.due(0, x.say(0));
        Checks.due(-1, x.rules());
        Checks.state(() -> x.rule(0, 0));
        Checks.state(() -> x.rule(1, 6));
        Checks.argument(() -> x.rule(2, 0));
        Checks.due(1, x.check(0));
        Checks.due(1, x.rule(0, 0));
        // New rules are those that there are then; they were not asked.
        Houses.say(x, "z:1=1");
        Checks.due(1, x.rules());
        Checks.state(() -> x.rule(0, 0));
        Checks.argument(() -> x.rule(1, 0));
        Checks.due(0, x.check(0));
        // What was asked before there were rules does not count for these.
        TowerHouse y = new TowerHouse();
        Checks.due(0, y.check(0));
        Checks.argument(() -> y.rule(0, 0));
        Houses.say(y, "z:1=1");
        y.rules();
        Checks.state(() -> y.rule(0, 0));
    }

    private static void wrongChangesNothing() {
        TowerHouse x = new TowerHouse();
        Houses.rules(x, "a:1=2;b:1=1");
        x.check(0);
        Houses.say(x, "c:2=2;d:2=2;c:1=1");
        Checks.due(-1 - 12, x.rules());
        Checks.due(-1 - 12, x.rules());
        Checks.due(17, x.say(0));
        Checks.due(1, x.rule(0, 0));
        Checks.due(1, x.rule(0, 1));
        Checks.argument(() -> x.rule(2, 0));
        Checks.due(1, x.check(0));
        Checks.due(11, x.trim(6));
        Checks.due(2, x.rules());
        x.check(0);
        Checks.due(2, x.rule(0, 1));
    }

    private static void wrong(int place, String text) {
        TowerHouse x = new TowerHouse();
        Houses.say(x, text);
        Checks.due(-1 - place, x.rules());
        Checks.due(text.length(), x.say(0));
    }

    private static void good(int rules, String text) {
        TowerHouse x = new TowerHouse();
        Houses.say(x, text);
        Checks.due(rules, x.rules());
        Checks.due(0, x.say(0));
    }

    private static void textEnds() {
        String whole = "ab:-(12+x)*3/(4-y)<=5!6>=7@8";
        int[] needsMore = {0, 2, 3, 4, 5, 7, 8, 9, 10, 11, 12, 13, 14, 15, 16, 17, 19, 22, 23, 25, 27};
        for (int k : needsMore) {
            wrong(k, whole.substring(0, k));
            wrong(k + 3, whole.substring(0, k) + "   ");
        }
        int[] mayEnd = {21, 26, 28};
        for (int k : mayEnd) {
            good(1, whole.substring(0, k));
            good(1, whole.substring(0, k) + "  ");
        }
        wrong(0, "");
        wrong(1, " ");
        wrong(8, "        ");
    }

    private static void longWords() {
        good(1, "abcdefgh:999999999=000000000");
        wrong(0, "abcdefghi:1=1");
        wrong(2, "a:1234567890=1");
        wrong(2, "a:0000000000=1");
        wrong(4, "a:1=zzzzzzzzz");
        wrong(6, "a:1=1@1000000000");
        wrong(6, "a:1=1;bbbbbbbbb:1=1");
        // As long as can be: letters and digits side by side are two words.
        wrong(3, "a:1a=1");
        wrong(3, "a:a1=1");
        wrong(1, "a1:1=1");
        wrong(2, "ab1:1=1");
        // The first wrong word is told, also if a later one is too long.
        wrong(3, "a:1x1234567890");
        TowerHouse x = new TowerHouse();
        Houses.rules(x, "a:999999999=zzzzzzzz@999999999");
        x.fact(Houses.word("zzzzzzzz"), 1);
        Checks.due(0, x.check(1000000));
        Checks.due(4, x.rule(0, 0));
        Houses.rules(x, "a:999999999=zzzzzzzz");
        Checks.due(1, x.check(0));
        Checks.due(999999999, x.rule(0, 1));
        Checks.due(1, x.rule(0, 3));
    }

    private static void doubleSigns() {
        good(1, "a:1<=1");
        good(1, "a:1>=1");
        wrong(5, "a:1< =1");
        wrong(5, "a:1> =1");
        wrong(4, "a:1=<1");
        wrong(4, "a:1=>1");
        wrong(4, "a:1<>1");
        wrong(5, "a:1<==1");
        wrong(5, "a:1>==1");
        wrong(4, "a:1==1");
        wrong(4, "a:1<");
        wrong(5, "a:1<=");
        wrong(2, "a:<=1");
        wrong(1, "a<=1");
        // The last character of a full text may be one.
        TowerHouse x = new TowerHouse();
        for (int k = 0; k < 99; k++) {
            x.say(0x2020202020202020L);
        }
        Houses.say(x, "a:1=111<");
        Checks.due(-1 - 799, x.rules());
    }

    private static void noWords() {
        String others = "\"#$%&',.?[\\]^_`{|}~ABCXYZ";
        for (int k = 0; k < others.length(); k++) {
            String c = others.substring(k, k + 1);
            wrong(0, c);
            wrong(1, "a" + c + ":1=1");
            wrong(3, "a:1" + c + "=1");
            wrong(5, "a:1=1" + c);
            wrong(7, "a:1=1  " + c);
        }
        // The signs themselves, where no sign may stand.
        String signs = "+*/)<=>:;!@";
        for (int k = 0; k < signs.length(); k++) {
            wrong(2, "a:" + signs.charAt(k) + "1=1");
        }
    }

    private static void twelveRules() {
        StringBuilder text = new StringBuilder("a:1=1");
        for (int k = 1; k < 12; k++) {
            good(k, text.toString());
            text.append(';').append((char) ('a' + k)).append(":1=1");
        }
        good(12, text.toString());
        good(12, text + ";");
        good(12, text + " ; ");
        wrong(text.length() + 1, text + ";m:1=1");
        wrong(text.length() + 1, text + ";a:1=1");
        wrong(text.length() + 2, text + "; m");
        wrong(text.length(), text + "m:1=1");
        // A name that was there is wrong, whatever its length; a fact may have it.
        wrong(6, "a:1=1;a:1=1");
        wrong(6, "a:1=1;a");
        wrong(12, "a:1=1;b:1=1;a:1=1");
        good(2, "a:1=1;aa:1=1");
        good(2, "a:a=b;b:b=a");
        wrong(20, "abcdefgh:1=1;b:1=1; abcdefgh:1=1");
    }

    private static void manyWords() {
        // a : 1 = 1 are 5 words; 57 times + 1 make 119, ; makes 120.
        StringBuilder text = new StringBuilder("a:1=1");
        for (int k = 0; k < 57; k++) {
            text.append("+1");
        }
        int end = text.length();
        good(1, text.toString());
        good(1, text + ";");
        wrong(end + 1, text + ";b");
        wrong(end + 1, text + ";;");
        wrong(end + 2, text + "; ;");
        wrong(end + 1, text + "+1");
        wrong(end + 1, text + "@1");
        wrong(end + 1, text + "!1=1");
        // 120 words and blanks behind them.
        good(1, "a:-1=1" + text.substring(5));
        good(1, "a:-1=1" + text.substring(5) + "   ");
        wrong(end + 1, "a:-1=1" + text.substring(5) + ";");
        wrong(end + 3, "a:-1=1" + text.substring(5) + "  ;");
        // With more to come at the end of 120 words, it is the end that is wrong.
        wrong(end + 1, text + "+");
        wrong(end + 1, text + "@");
        // Read by one object, one text does not help the other one.
        TowerHouse x = new TowerHouse();
        Checks.due(1, Houses.rules(x, text + ";"));
        Checks.due(-1 - end - 1, Houses.rules(x, text + ";b"));
        Checks.due(1, Houses.rules(x, "a:1=1"));
        Checks.due(-1 - end - 1, Houses.rules(x, text + ";b"));
        // An earlier word is told first.
        wrong(2, "a:+1=1" + text.substring(5) + ";;;");
    }

    private static void parentheses() {
        good(1, "a:((((((((1))))))))=1");
        wrong(2 + 8, "a:(((((((((1)))))))))=1");
        wrong(2 + 8, "a:((((((((( ");
        good(1, "a:1=((((((((1))))))))+((((((((1))))))))*((((((((x))))))))");
        wrong(4 + 18 + 8, "a:1=((((((((1))))))))+(((((((((1)))))))))");
        good(1, "a:1=1!((((((((1))))))))=((((((((1))))))))");
        wrong(6 + 8, "a:1=1!(((((((((1)))))))))=1");
        // Beside one another there may be any number of them.
        good(1, "a:(1)+(1)+(1)+(1)+(1)+(1)+(1)+(1)+(1)+(1)+(1)=(1)");
        good(1, "a:((((((((1)+(1)))))*(1))))=1");
        wrong(5, "a:(1))=1");
        wrong(4, "a:(1=1)");
        wrong(3, "a:()=1");
        // They are reckoned as deep on both sides, and in exceptions.
        TowerHouse x = new TowerHouse();
        String deep = "((((((((1+1)*2)+1)*2)+1)*2)+1)*2)";
        Checks.due(1, Houses.rules(x, "a:" + deep + "=" + deep));
        x.check(0);
        Checks.due(46, x.rule(0, 1));
        Checks.due(46, x.rule(0, 3));
        Checks.due(1, Houses.rules(x, "b:-(-(-(-(-(-(-(-1)))))))=-(-(-(-(-(-(-(-(-2))))))))"));
        x.check(0);
        Checks.due(1, x.rule(0, 1));
        Checks.due(-2, x.rule(0, 3));
        Checks.due(1, Houses.rules(x, "c:1=2!" + deep + "=" + deep));
        x.check(0);
        Checks.due(2, x.rule(0, 0));
    }

    private static void endsOfRules() {
        good(1, "a:1=1;");
        wrong(6, "a:1=1;;");
        wrong(0, ";");
        wrong(0, ";a:1=1");
        good(2, "a:1=1@0;b:1=1@1;");
        wrong(7, "a:1=1@1@1");
        wrong(7, "a:1=1@1!1=1");
        good(1, "a:1=1!1=1!1=1!1=1@5");
        wrong(6, "a:1=1@-1");
        wrong(6, "a:1=1@(1)");
        wrong(6, "a:1=1@x");
        wrong(6, "a:1=1!@1");
        wrong(2, "a::1=1");
        wrong(1, "a@1");
    }

    private static void factValues() {
        TowerHouse x = new TowerHouse();
        Checks.due(TowerHouse.UNKNOWN, x.fact('a', 1000000000));
        Checks.due(1000000000, x.fact('a', -1000000000));
        Checks.due(-1000000000, x.fact('a', 0));
        int[] wrong = {1000000001, -1000000001, LEAST, GREATEST};
        for (int v : wrong) {
            Checks.argument(() -> x.fact('a', v));
            Checks.argument(() -> x.fact('b', v));
        }
        Checks.due(TowerHouse.UNKNOWN, x.fact('b', 0));
        Checks.due(0, x.fact('b', 7));
        Checks.due(0, x.fact('a', 0));
    }

    private static void factNames() {
        for (long c = 0; c < 256; c++) {
            TowerHouse y = new TowerHouse();
            boolean isLetter = c >= 'a' && c <= 'z';
            long[] names = {c, 0x61L << 8 | c, 0x6161616161616100L | c, c << 56 | 0x62626262626262L, 0x7a007aL | c << 8};
            for (int k = 0; k < names.length; k++) {
                long name = names[k];
                // At the top a byte that is 0 is none, and what is left is a name of seven letters.
                if (isLetter || k == 3 && c == 0) {
                    Checks.due(TowerHouse.UNKNOWN, y.fact(name, 1));
                } else {
                    Checks.argument(() -> y.fact(name, 1));
                }
            }
        }
        TowerHouse x = new TowerHouse();
        x.fact('a', 1);
        // Of 1 .. 8 letters; a gap makes it no name.
        long name = 0x61;
        for (int k = 2; k <= 8; k++) {
            name = name << 8 | 0x7a;
            Checks.due(TowerHouse.UNKNOWN, x.fact(name, k));
        }
        Checks.argument(() -> x.fact(0x6100000000000061L, 1));
        Checks.argument(() -> x.fact(0x610061, 1));
        Checks.argument(() -> x.fact(Long.MIN_VALUE, 1));
        Checks.argument(() -> x.fact(Long.MAX_VALUE, 1));
        // The first letter is the highest byte.
        Houses.rules(x, "q:azz=zza");
        x.check(0);
        Checks.due(3, x.rule(0, 1));
        Checks.due(1, x.rule(0, 5));
        Checks.due(0x7a7a61, x.rule(0, 6));
    }

    private static void fortyFacts() {
        TowerHouse x = new TowerHouse();
        for (int k = 0; k < 40; k++) {
            long name = 0x6161 + (k % 20) + (k / 20 << 8);
            Checks.due(TowerHouse.UNKNOWN, x.fact(name, k));
        }
        Checks.state(() -> x.fact('a', 0));
        Checks.argument(() -> x.fact('a', 1000000001));
        Checks.argument(() -> x.fact('A', 0));
        Checks.due(0, x.fact(0x6161, 5));
        Checks.due(39, x.fact(0x6161 + 19 + 256, 5));
        Checks.state(() -> x.fact('a', 0));
        Houses.rules(x, "r:bt=5;s:a=0");
        x.check(0);
        Checks.due(0, x.rule(0, 0));
        Checks.due(3, x.rule(1, 0));
    }

    private static void measures() {
        TowerHouse x = new TowerHouse();
        Checks.argument(() -> x.measure(0, 0, 'a'));
        PlanTest.square(x, 0, 0, 24);
        Checks.argument(() -> x.measure(0, 0, 'a'));
        x.find();
        Checks.argument(() -> x.measure(0, -1, 'a'));
        Checks.argument(() -> x.measure(0, 3, 'a'));
        Checks.argument(() -> x.measure(-1, 0, 'a'));
        Checks.argument(() -> x.measure(1, 0, 'a'));
        Checks.argument(() -> x.measure(0, 0, 0));
        Checks.argument(() -> x.measure(0, 0, 'a' - 1));
        Checks.argument(() -> x.measure(0, 0, 'z' + 1));
        Checks.due(576, x.measure(0, 0, 'a'));
        Checks.due(96, x.measure(0, 1, 'b'));
        Checks.due(1, x.measure(0, 2, 'c'));
        for (int k = 3; k < 40; k++) {
            x.fact(0x6161 + (k % 20) + (k / 20 << 8), k);
        }
        Checks.state(() -> x.measure(0, 0, 'd'));
        Checks.argument(() -> x.measure(0, 3, 'd'));
        Checks.due(96, x.measure(0, 1, 'a'));
        Checks.due(96, x.fact('a', 1));
        // A fact stays as it was measured when the plan changes.
        x.line(3, 3, 4, 3);
        Checks.state(() -> x.measure(0, 1, 'b'));
        Checks.argument(() -> x.measure(1, 1, 'b'));
        Checks.due(96, x.fact('b', 96));
        x.find();
        Checks.due(98, x.measure(0, 1, 'b'));
        x.build(0);
        Checks.due(98, x.fact('b', 0));
        Checks.due(2, x.measure(0, 2, 'b'));
    }
}
