/** The edges that promises 14 and 15 name of the matrix text, a test for each of their sentences. */
final class MatrixTextEdgeTest {
    private static final int LEAST = Integer.MIN_VALUE;
    private static final int GREATEST = Integer.MAX_VALUE;
    /** 23 words: zones 0 (of switch 0) and 1 (of switch 1), and act 0. */
    private static final String BASE = "zone 0 needs 1 of 4; zone 1 needs 1 of 5; act 0 kind 0 rank 0 delay 0; ";

    private MatrixTextEdgeTest() {
    }

    static void all() {
        Checks.test("P14 edge: unit, 'it is not 0 .. 127', 'also if it has 2000'", MatrixTextEdgeTest::units);
        Checks.test("P14 edge: sentence, 'which is none of these', numbers 0 .. 9999, d 1 .. 12", MatrixTextEdgeTest::sentenceNumbers);
        Checks.test("P14 edge: sentence, 'one blank between words and one behind it'", MatrixTextEdgeTest::sentenceTexts);
        Checks.test("P14 edge: sentence, 'also if it would have more than 2000'", MatrixTextEdgeTest::fullText);
        Checks.test("P14 edge: cutText, 'n is below 0, or more than there are'", MatrixTextEdgeTest::cuts);
        Checks.test("P15 edge: matrix, 'any number of' sentences, blanks and line ends", MatrixTextEdgeTest::anyNumber);
        Checks.test("P15 edge: matrix, 'if the text ends within a sentence it is the word that would come next'", MatrixTextEdgeTest::textEnds);
        Checks.test("P15 edge: matrix, 'zone Z (0 .. 19)', points 0 .. n + 9", MatrixTextEdgeTest::zoneNumbers);
        Checks.test("P15 edge: matrix, '1 .. 12 points', 'no point is twice in a zone'", MatrixTextEdgeTest::zonePoints);
        Checks.test("P15 edge: matrix, 'N is wrong where it stands, if it is not 1 .. 12'", MatrixTextEdgeTest::needs);
        Checks.test("P15 edge: matrix, 'A (0 .. 19), K (0 .. 5), R (0 .. 99), S (0 .. 600)'", MatrixTextEdgeTest::actNumbers);
        Checks.test("P15 edge: matrix, 'or with more than 6 digits'", MatrixTextEdgeTest::digits);
        Checks.test("P15 edge: matrix, 'told before it is used, and once'", MatrixTextEdgeTest::toldOnce);
        Checks.test("P15 edge: matrix, 'both zones of a row are not the same', 'no act is held twice'", MatrixTextEdgeTest::notTheSame);
        Checks.test("P15 edge: matrix, 'the first word of a fifty-first row'", MatrixTextEdgeTest::fiftyRows);
        Checks.test("P15 edge: matrix, 'a character that is in no word is one by itself, and wrong'", MatrixTextEdgeTest::noWords);
        Checks.test("P15 edge: matrix, WORDS 'as long as they can be'", MatrixTextEdgeTest::longWords);
        Checks.test("P15 edge: matrix, 'instead of what was there, if nothing is wrong in it'", MatrixTextEdgeTest::replaced);
    }

    private static void wrong(int word, String text) {
        TowerHouse x = Houses.four();
        Houses.write(x, text);
        Checks.due(-1 - word, x.matrix());
        Checks.due(text.length(), x.cutText(0));
    }

    private static void good(int rows, String text) {
        TowerHouse x = Houses.four();
        Houses.write(x, text);
        Checks.due(rows, x.matrix());
        Checks.due(text.length(), x.cutText(0));
    }

    private static void units() {
        TowerHouse x = Houses.four();
        int[] wrong = {-1, 128, 255, LEAST, GREATEST};
        for (int v : wrong) {
            Checks.argument(() -> x.unit(v));
        }
        for (int c = 0; c < 128; c++) {
            Checks.due(c + 1, x.unit(c));
        }
        Checks.due(0, x.cutText(128));
        // Each sentence here has 87 characters; with 13 more, twenty of them are 2000.
        for (int k = 0; k < 20; k++) {
            Checks.due(100 * k + 87, x.sentence(0, 9999, 9999, 9989, 12));
            for (int more = 88; more <= 100; more++) {
                Checks.due(100 * k + more, x.unit(';'));
            }
        }
        Checks.state(() -> x.unit(0));
        Checks.state(() -> x.unit(127));
        for (int v : wrong) {
            Checks.argument(() -> x.unit(v));
        }
        Checks.due(1999, x.cutText(1));
        Checks.due(2000, x.unit(127));
        Checks.state(() -> x.unit(127));
    }

    private static void sentenceNumbers() {
        TowerHouse x = Houses.four();
        int[] noKind = {-1, 5, LEAST, GREATEST};
        for (int v : noKind) {
            Checks.argument(() -> x.sentence(v, 0, 0, 0, 1));
        }
        int[] wrong = {-1, 10000, LEAST, GREATEST};
        int[] told = {4, 4, 2, 3, 1};
        for (int which = 0; which < 5; which++) {
            int w = which;
            for (int v : wrong) {
                Checks.argument(() -> x.sentence(w, v, 1, 1, 1));
                if (told[w] > 1) {
                    Checks.argument(() -> x.sentence(w, 1, v, 1, 1));
                }
                if (told[w] > 2) {
                    Checks.argument(() -> x.sentence(w, 1, 1, v, 1));
                }
                if (told[w] > 3) {
                    Checks.argument(() -> x.sentence(w, 1, 1, 1, v));
                }
            }
            Checks.due(0, x.cutText(0));
            x.sentence(w, 0, 0, 0, 1);
            x.cutText(x.cutText(0));
            x.sentence(w, 9999, 9999, 9999, 12);
            x.cutText(x.cutText(0));
        }
        Checks.argument(() -> x.sentence(0, 0, 0, 0, 0));
        Checks.argument(() -> x.sentence(0, 0, 0, 0, 13));
    }

    /** The sentence has as many characters as the text, and is read as that is. */
    private static void written(String text, int which, int a, int b, int c, int d) {
        TowerHouse x = Houses.four();
        Checks.due(text.length(), x.sentence(which, a, b, c, d));
        // A text that goes on behind it: the words are as many as in the text.
        x.unit('#');
        TowerHouse y = Houses.four();
        Houses.write(y, text + "#");
        Checks.due(y.matrix(), x.matrix());
        // Without its last characters it is wrong at the same word, too.
        for (int k = 0; k < 3; k++) {
            x.cutText(2);
            y.cutText(2);
            Checks.due(y.matrix(), x.matrix());
        }
    }

    private static void sentenceTexts() {
        written("zone 0 needs 0 of 0 ; ", 0, 0, 0, 0, 1);
        written("zone 9 needs 1 of 9 10 ; ", 0, 9, 1, 9, 2);
        written("zone 10 needs 12 of 2 3 4 5 6 7 8 9 10 11 12 13 ; ", 0, 10, 12, 2, 12);
        written("zone 1 needs 1 of 9999 10000 10001 10002 10003 10004 10005 10006 10007 10008 10009 10010 ; ", 0, 1, 1, 9999, 12);
        written("zone 1 needs 1 of 998 999 1000 ; ", 0, 1, 1, 998, 3);
        written("act 0 kind 5 rank 99 delay 600 ; ", 1, 0, 5, 99, 600);
        written("act 1000 kind 100 rank 10 delay 0 ; ", 1, 1000, 100, 10, 0);
        written("when 0 does 9999 ; ", 2, 0, 9999, 0, 0);
        written("when 0 & 10 does 100 ; ", 3, 0, 10, 100, 0);
        written("hold 0 ; ", 4, 0, 0, 0, 0);
        written("hold 9999 ; ", 4, 9999, 0, 0, 0);
        // As it is read: points c, c + 1, ..
        TowerHouse x = Houses.four();
        x.sentence(0, 0, 2, 8, 3);
        Checks.due(0, x.matrix());
        for (int k = 7; k < 12; k++) {
            x.signal(k, 50);
            Checks.due(Math.max(0, Math.min(k - 7, 3)), x.zone(0, 3));
        }
    }

    private static void fullText() {
        TowerHouse x = Houses.four();
        int length = x.sentence(1, 0, 0, 0, 0);
        Checks.due(30, length);
        while (length < 1944) {
            length = x.sentence(0, 9999, 9999, 9989, 12);
        }
        Checks.due(1944, length);
        Checks.due(1974, x.sentence(1, 1, 0, 0, 0));
        Checks.due(1983, x.sentence(4, 0, 0, 0, 0));
        Houses.write(x, "        ");
        Checks.state(() -> x.sentence(4, 10, 0, 0, 0));
        Checks.argument(() -> x.sentence(4, 10000, 0, 0, 0));
        Checks.due(1991, x.cutText(0));
        Checks.due(2000, x.sentence(4, 9, 0, 0, 0));
        Checks.state(() -> x.sentence(4, 0, 0, 0, 0));
        Checks.state(() -> x.sentence(0, 0, 1, 0, 12));
        Checks.argument(() -> x.sentence(5, 0, 0, 0, 12));
        // What was refused is not there when there is room again.
        Checks.due(1991, x.cutText(9));
        Checks.due(30, x.cutText(1961));
        Checks.due(0, x.matrix());
        Checks.due(0, x.act(0, 0));
        Checks.argument(() -> x.act(1, 0));
    }

    private static void cuts() {
        TowerHouse x = Houses.four();
        Checks.due(0, x.cutText(0));
        int[] wrong = {-1, 1, LEAST, GREATEST};
        for (int v : wrong) {
            Checks.argument(() -> x.cutText(v));
        }
        Houses.write(x, "hold");
        Checks.argument(() -> x.cutText(5));
        Checks.argument(() -> x.cutText(-1));
        Checks.due(4, x.cutText(0));
        Checks.due(1, x.cutText(3));
        Checks.due(-1, x.matrix());
        Checks.due(0, x.cutText(1));
        Checks.due(0, x.matrix());
        // What was cut off is no part of the last word.
        Houses.write(x, "zone 199");
        Checks.due(-1 - 1, x.matrix());
        x.cutText(1);
        Checks.due(-1 - 2, x.matrix());
        x.cutText(7);
        Houses.write(x, "zone 0 needs 1 of 0;;");
        x.cutText(1);
        Checks.due(0, x.matrix());
    }

    private static void anyNumber() {
        good(0, "");
        good(0, " ");
        good(0, "\n");
        good(0, "act 0 kind 0 rank 0 delay 0;");
        good(0, "\n\nact\n0 kind\n\n0 rank 0\ndelay 0\n;\n");
        good(0, "zone 0 needs 1 of 0;");
        good(1, "zone0needs1of0;act0kind0rank0delay0;when0does0;hold0;");
        good(2, BASE + "when 0 & 1 does 0; when 1&0 does 0;");
        good(3, BASE + "when 0 does 0; when 0 does 0; when 0 does 0;");
        // 20 zones and 20 acts.
        TowerHouse x = Houses.four();
        for (int k = 0; k < 20; k++) {
            x.sentence(0, k, 1, k % 14, 1);
            x.sentence(1, k, k % 6, k, k);
            x.sentence(2, k, k, 0, 0);
        }
        Checks.due(20, x.matrix());
        for (int k = 0; k < 20; k++) {
            Checks.due(k, x.act(k, 3));
            Checks.due(k % 6, x.act(k, 2));
            Checks.due(1, x.zone(k, 2));
        }
    }

    private static void textEnds() {
        String[] words = {"zone", "0", "needs", "1", "of", "4", ";", "act", "0", "kind", "0", "rank", "0", "delay", "0", ";",
            "zone", "1", "needs", "1", "of", "5", "6", ";", "when", "0", "&", "1", "does", "0", ";", "when", "0", "does", "0", ";", "hold", "0", ";"};
        StringBuilder text = new StringBuilder();
        int rows = 0;
        for (int k = 0; k <= words.length; k++) {
            boolean isWhole = k == 0 || words[k - 1].equals(";");
            if (k == 31 || k == 36) {
                rows++;
            }
            if (isWhole) {
                good(rows, text.toString());
                good(rows, text + " \n");
            } else {
                wrong(k, text.toString());
                wrong(k, text + " \n ");
            }
            if (k < words.length) {
                text.append(words[k]).append(' ');
            }
        }
    }

    private static void zoneNumbers() {
        good(0, "zone 0 needs 1 of 0;zone 19 needs 1 of 13;");
        wrong(1, "zone 20 needs 1 of 0;");
        wrong(5, "zone 0 needs 1 of 14;");
        wrong(6, "zone 0 needs 1 of 13 14;");
        wrong(24, BASE + "when 20 does 0;");
        wrong(24, BASE + "when 19 does 0;");
        wrong(26, BASE + "when 0 & 20 does 0;");
        // With one room the switches are 1 .. 10.
        TowerHouse x = Houses.one(2, 2);
        Checks.due(0, Houses.matrix(x, "zone 0 needs 1 of 0 10;"));
        Checks.due(-1 - 5, Houses.matrix(x, "zone 0 needs 1 of 11;"));
        Checks.due(0, x.signal(10, 100));
        Checks.due(1, x.zone(0, 0));
        // With 40 rooms they are 40 .. 49.
        TowerHouse y = PermitTest.comb(new TowerHouse());
        y.find();
        y.build(0);
        Checks.due(0, Houses.matrix(y, "zone 0 needs 1 of 0 49;"));
        Checks.due(-1 - 5, Houses.matrix(y, "zone 0 needs 1 of 50;"));
    }

    private static void zonePoints() {
        good(0, "zone 0 needs 1 of 0 1 2 3 4 5 6 7 8 9 10 11;");
        good(0, "zone 0 needs 12 of 13 12 11 10 9 8 7 6 5 4 3 2;");
        wrong(17, "zone 0 needs 1 of 0 1 2 3 4 5 6 7 8 9 10 11 12;");
        wrong(17, "zone 0 needs 12 of 0 1 2 3 4 5 6 7 8 9 10 11 0;");
        wrong(5, "zone 0 needs 1 of;");
        wrong(5, "zone 0 needs 1 of ; 0");
        wrong(6, "zone 0 needs 1 of 3 3;");
        wrong(7, "zone 0 needs 1 of 3 4 3;");
        wrong(16, "zone 0 needs 1 of 0 1 2 3 4 5 6 7 8 9 10 0;");
        wrong(6, "zone 0 needs 1 of 3 03;");
        // In two zones a point may be.
        good(0, "zone 0 needs 1 of 3;zone 1 needs 1 of 3;");
    }

    private static void needs() {
        wrong(3, "zone 0 needs 0 of 4;");
        wrong(3, "zone 0 needs 13 of 4;");
        wrong(3, "zone 0 needs 0");
        wrong(3, "zone 0 needs 13");
        wrong(3, "zone 0 needs 999999 of 4;");
        wrong(3, "zone 0 needs 2 of 4;");
        wrong(3, "zone 0 needs 12 of 0 1 2 3 4 5 6 7 8 9 10;");
        good(0, "zone 0 needs 12 of 0 1 2 3 4 5 6 7 8 9 10 11;");
        good(0, "zone 0 needs 2 of 4 5;");
        // Asked behind the sentence: something else in it that is wrong is told instead, something behind it is not.
        wrong(6, "zone 0 needs 2 of 4");
        wrong(6, "zone 0 needs 2 of 4 4;");
        wrong(6, "zone 0 needs 2 of 4 14;");
        wrong(4, "zone 0 needs 12 off 4;");
        wrong(3, "zone 0 needs 2 of 4;#");
        wrong(3, "zone 0 needs 2 of 4; zone 0 needs 2 of 4;");
        wrong(10, "zone 0 needs 1 of 4;zone 1 needs 2 of 4;");
    }

    private static void actNumbers() {
        good(0, "act 0 kind 0 rank 0 delay 0;act 19 kind 5 rank 99 delay 600;");
        wrong(1, "act 20 kind 0 rank 0 delay 0;");
        wrong(3, "act 0 kind 6 rank 0 delay 0;");
        wrong(5, "act 0 kind 0 rank 100 delay 0;");
        wrong(7, "act 0 kind 0 rank 0 delay 601;");
        wrong(1, "act 999999 kind 0 rank 0 delay 0;");
        wrong(26, BASE + "when 0 does 20;");
        wrong(26, BASE + "when 0 does 19;");
        wrong(24, BASE + "hold 20;");
        wrong(24, BASE + "hold 19;");
        TowerHouse x = Houses.four();
        Houses.matrix(x, "act 0 kind 0 rank 0 delay 0;act 19 kind 5 rank 99 delay 600;hold 19;");
        for (int what = 2; what < 6; what++) {
            Checks.due(0, x.act(0, what));
        }
        Checks.row(Checks.of(5, 99, 600, 1), Checks.of(x.act(19, 2), x.act(19, 3), x.act(19, 4), x.act(19, 5)));
        int[] none = {1, 18, 20, -1, LEAST, GREATEST};
        for (int v : none) {
            Checks.argument(() -> x.act(v, 0));
            Checks.argument(() -> x.zone(v, 0));
        }
    }

    private static void digits() {
        good(0, "zone 000000 needs 000001 of 000013;");
        wrong(1, "zone 0000000 needs 1 of 0;");
        wrong(3, "zone 0 needs 0000001 of 0;");
        wrong(5, "zone 0 needs 1 of 0000000;");
        wrong(6, "zone 0 needs 1 of 0 0000001;");
        good(0, "act 000019 kind 000005 rank 000099 delay 000600;");
        wrong(1, "act 0000000 kind 0 rank 0 delay 0;");
        wrong(3, "act 0 kind 0000000 rank 0 delay 0;");
        wrong(5, "act 0 kind 0 rank 0000000 delay 0;");
        wrong(7, "act 0 kind 0 rank 0 delay 0000000;");
        wrong(24, BASE + "when 0000000 does 0;");
        wrong(24, BASE + "hold 0000000;");
        // 2^32 and 2^64 come round to 0 in no number.
        wrong(1, "zone 4294967296 needs 1 of 0;");
        wrong(1, "zone 18446744073709551616 needs 1 of 0;");
    }

    private static void toldOnce() {
        wrong(8, "zone 0 needs 1 of 4;zone 0 needs 1 of 4;");
        wrong(8, "zone 0 needs 1 of 4;zone 0");
        wrong(10, "act 0 kind 0 rank 0 delay 0;act 0 kind 0 rank 0 delay 0;");
        wrong(10, "act 0 kind 0 rank 0 delay 0;act 0");
        wrong(1, "hold 0;act 0 kind 0 rank 0 delay 0;");
        wrong(1, "when 0 does 0;" + BASE);
        wrong(24, BASE + "when 2 does 0;zone 2 needs 1 of 4;");
        wrong(26, BASE + "when 0 does 1;act 1 kind 0 rank 0 delay 0;");
        wrong(26, BASE + "when 0 & 2 does 0;");
        wrong(24, BASE + "hold 1;");
        // A zone of one number and an act of it are two things.
        wrong(8, "zone 3 needs 1 of 4;hold 3;");
        wrong(10, "act 3 kind 0 rank 0 delay 0;when 3 does 3;");
        // Told in a text before, it is not told in this one.
        TowerHouse x = Houses.four();
        Checks.due(0, Houses.matrix(x, BASE));
        Checks.due(-1 - 1, Houses.matrix(x, "hold 0;"));
        Checks.due(-1 - 1, Houses.matrix(x, "when 0 does 0;"));
    }

    private static void notTheSame() {
        wrong(26, BASE + "when 0 & 0 does 0;");
        wrong(26, BASE + "when 1 & 1 does 0;");
        wrong(26, BASE + "when 0 & 00 does 0;");
        good(1, BASE + "when 0 & 1 does 0;");
        good(1, BASE + "when 1 & 0 does 0;");
        wrong(27, BASE + "hold 0;hold 0;");
        wrong(27, BASE + "hold 0;hold 0");
        good(0, BASE + "hold 0;act 1 kind 0 rank 0 delay 0;hold 1;");
    }

    private static void fiftyRows() {
        StringBuilder text = new StringBuilder("zone0needs1of4;act0kind0rank0delay0;");
        for (int k = 0; k < 50; k++) {
            text.append("when0does0;");
        }
        int words = 7 + 9 + 50 * 5;
        TowerHouse x = written(text.toString());
        Checks.due(50, x.matrix());
        Checks.due(50, written(text + "hold0;").matrix());
        Checks.due(-1 - words, written(text + "when0does0;").matrix());
        Checks.due(-1 - words, written(text + "when").matrix());
        Checks.due(-1 - words - 3, written(text + "hold0;when").matrix());
        Checks.due(-1 - words - 1, written(text + "zone").matrix());
        // The fiftieth is as good as the first: a row of a zone and act of its own.
        TowerHouse y = written(text.substring(0, text.length() - 11) + "zone1needs1of5;act1kind5rank0delay0;when1does1;");
        Checks.due(50, y.matrix());
        y.signal(5, 50);
        y.pass(1);
        Checks.due(2, y.act(1, 0));
        Checks.due(0, y.act(0, 0));
    }

    /** A house with a long text, with no more calls than an object is used for. */
    private static TowerHouse written(String text) {
        TowerHouse x = Houses.four();
        int at = 0;
        while (at < text.length()) {
            int end = text.indexOf(';', at) + 1;
            String part = text.substring(at, end == 0 ? text.length() : end);
            if (part.equals("when0does0;")) {
                x.sentence(2, 0, 0, 0, 0);
            } else {
                Houses.write(x, part);
            }
            at += part.length();
        }
        return x;
    }

    private static void noWords() {
        String others = "\t\r!\"#$%'()*+,-./:<=>?@ABYZ[\\]^_`{|}~";
        for (int k = 0; k < others.length(); k++) {
            String c = others.substring(k, k + 1);
            wrong(0, c);
            wrong(0, c + "zone 0 needs 1 of 4;");
            wrong(1, "zone" + c + "0 needs 1 of 4;");
            wrong(6, "zone 0 needs 1 of 4" + c + ";");
            wrong(7, "zone 0 needs 1 of 4;" + c + c);
        }
        wrong(0, String.valueOf((char) 0));
        wrong(0, String.valueOf((char) 127));
        wrong(7, "zone 0 needs 1 of 4;" + (char) 31);
        // Two of them side by side are two words, but the first is told.
        wrong(1, "zone ##0");
        wrong(0, ";");
        wrong(0, "&");
        wrong(7, "zone 0 needs 1 of 4;;");
        wrong(6, "zone 0 needs 1 of 4&;");
    }

    private static void longWords() {
        wrong(0, "zonezone 0 needs 1 of 4;");
        wrong(0, "zon e 0 needs 1 of 4;");
        wrong(0, "xxxxzone 0 needs 1 of 4;");
        wrong(0, "xxxxxxxxzone 0 needs 1 of 4;");
        wrong(0, "zoneaaaaaaaaaaaaaaaaaaaa");
        wrong(2, "zone 0 need s 1 of 4;");
        wrong(2, "zone 0 1 needs 1 of 4;");
        wrong(1, "zone needs 1 of 4;");
        wrong(2, "zone 0 needsof 4;");
        wrong(7, "act 0 kind 0 rank 0 delay x;");
        wrong(6, "act 0 kind 0 rank 0 delays 0;");
        wrong(25, BASE + "when 0 do 0;");
        wrong(23, BASE + "holds 0;");
        wrong(23, BASE + "whenn 0 does 0;");
        wrong(23, BASE + "actt");
    }

    private static void replaced() {
        TowerHouse x = Houses.four();
        Houses.write(x, BASE + "act 1 kind 5 rank 0 delay 600; zone 2 needs 1 of 6 7; when 0 does 0; when 2 does 1; hold 0;");
        Checks.due(2, x.matrix());
        x.signal(4, 50);
        x.signal(6, 50);
        x.pass(1);
        Checks.due(2, x.act(0, 0));
        Checks.due(1, x.act(1, 0));
        // A wrong text changes nothing.
        x.unit('#');
        Checks.due(-1 - 53, x.matrix());
        Checks.due(2, x.act(0, 0));
        Checks.due(1, x.act(1, 1));
        Checks.due(1, x.told(5));
        Checks.due(1, x.event(0, 0));
        Checks.due(0, x.reset());
        x.cutText(1);
        // The same text again: all acts rest, that makes no event, and the house is not released any more.
        Checks.due(2, x.matrix());
        Checks.due(0, x.act(0, 0));
        Checks.due(0, x.act(1, 0));
        Checks.due(-1, x.act(1, 1));
        Checks.due(0, x.told(5));
        Checks.due(0, x.told(2));
        Checks.due(1, x.event(0, 2));
        Checks.argument(() -> x.event(1, 0));
        x.pass(1);
        Checks.due(2, x.act(0, 0));
        Checks.due(2, x.event(0, 0));
        Checks.due(2, x.act(1, 1));
        // Fewer rows, other ranks: nothing of the earlier text is left.
        TowerHouse y = Houses.four();
        Houses.write(y, BASE + "act 1 kind 5 rank 9 delay 600;act 2 kind 5 rank 5 delay 600;act 3 kind 5 rank 4 delay 0;");
        for (int act = 0; act < 4; act++) {
            y.sentence(2, 0, act, 0, 0);
        }
        y.sentence(2, 1, 3, 0, 0);
        Checks.due(5, y.matrix());
        y.cutText(y.cutText(0));
        Houses.write(y, BASE + "act 1 kind 5 rank 3 delay 0;act 2 kind 5 rank 5 delay 0;act 3 kind 5 rank 0 delay 600;zone 2 needs 1 of 6 7;");
        for (int act = 0; act < 3; act++) {
            y.sentence(2, 0, act, 0, 0);
        }
        y.sentence(2, 2, 3, 0, 0);
        Checks.due(4, y.matrix());
        y.signal(4, 50);
        y.signal(5, 50);
        y.signal(6, 50);
        y.pass(1);
        Checks.due(2, y.act(0, 0));
        Checks.due(2, y.act(1, 0));
        Checks.due(2, y.act(2, 0));
        // Its own zone is not sure, and the row of zone 1 is not there any more.
        Checks.due(1, y.act(3, 0));
        int[] order = {2, 1, 0};
        for (int k = 0; k < 3; k++) {
            Checks.due(order[k], y.event(2 - k, 1));
        }
        Checks.argument(() -> y.event(3, 0));
        y.signal(4, 0);
        y.pass(1);
        Checks.due(0, y.act(1, 0));
        // An empty text takes all away, but for events and points.
        x.cutText(x.cutText(0));
        Checks.due(0, x.matrix());
        Checks.argument(() -> x.act(0, 0));
        Checks.argument(() -> x.zone(0, 0));
        Checks.due(0, x.told(5));
        Checks.due(0, x.reset());
        Checks.due(2, x.event(0, 0));
        Checks.due(50, x.signal(4, 0));
        x.pass(1);
        Checks.due(2, x.event(0, 0));
    }
}
