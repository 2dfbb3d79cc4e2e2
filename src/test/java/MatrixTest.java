/** Promises 14 to 17: the matrix text, points, zones, acts, events. */
final class MatrixTest {
    private MatrixTest() {
    }

    static void all() {
        Checks.test("P14 unit: characters, at most 2000", MatrixTest::units);
        Checks.test("P14 sentence: as it would be written", MatrixTest::sentences);
        Checks.test("P14 sentence: bounds of what is told, and room", MatrixTest::sentenceLimits);
        Checks.test("P14 cutText: takes from the end", MatrixTest::cuts);
        Checks.test("P15 matrix: good texts, the text stays", MatrixTest::goodTexts);
        Checks.test("P15 matrix: the wrong word", MatrixTest::wrongWords);
        Checks.test("P15 matrix: limits of points and rows", MatrixTest::limits);
        Checks.test("P15 matrix: takes its place, all acts rest", MatrixTest::newMatrix);
        Checks.test("P15 signal and fault: what was, on from 50", MatrixTest::signals);
        Checks.test("P16 disable: until a second", MatrixTest::disabled);
        Checks.test("P16 attend: look once, confirm", MatrixTest::attends);
        Checks.test("P16 reset: latched acts that are not called", MatrixTest::resets);
        Checks.test("P17 act: rest, waiting, done", MatrixTest::acts);
        Checks.test("P17 act: sure zones, two zones, several rows", MatrixTest::sure);
        Checks.test("P17 zone: on, sure, needs", MatrixTest::zones);
        Checks.test("P17 event: by rank, the latest 60", MatrixTest::events);
        Checks.test("P17 acts send telegrams and set points", MatrixTest::effects);
        Checks.test("P14-17 before the house is built", MatrixTest::planned);
    }

    private static void units() {
        TowerHouse x = Houses.four();
        Checks.due(1, x.unit(0));
        Checks.due(2, x.unit(127));
        Checks.argument(() -> x.unit(128));
        Checks.argument(() -> x.unit(-1));
        Checks.due(0, x.cutText(2));
        int length = 0;
        while (length < 1980) {
            length = x.sentence(4, 1000, 0, 0, 0);
        }
        while (length < 2000) {
            Checks.due(length + 1, x.unit(32));
            length++;
        }
        Checks.state(() -> x.unit(32));
        Checks.argument(() -> x.unit(128));
        Checks.state(() -> x.sentence(4, 1, 0, 0, 0));
        Checks.argument(() -> x.sentence(4, -1, 0, 0, 0));
        Checks.due(1991, x.cutText(9));
        Checks.due(2000, x.sentence(4, 1, 0, 0, 0));
        Checks.due(1992, x.cutText(8));
        Checks.state(() -> x.sentence(4, 1, 0, 0, 0));
        Checks.due(1992, x.cutText(0));
    }

    /** Whether a sentence and the text as it would be written have the same length and say the same. */
    private static void written(String text, int which, int a, int b, int c, int d) {
        TowerHouse x = Houses.four();
        Checks.due(text.length(), x.sentence(which, a, b, c, d));
        int said = x.matrix();
        TowerHouse y = Houses.four();
        Houses.write(y, text);
        Checks.due(y.matrix(), said);
    }

    private static void sentences() {
        written("zone 0 needs 1 of 0 1 ; ", 0, 0, 1, 0, 2);
        written("zone 19 needs 12 of 1 2 3 4 5 6 7 8 9 10 11 12 ; ", 0, 19, 12, 1, 12);
        written("zone 9999 needs 9999 of 9999 10000 10001 ; ", 0, 9999, 9999, 9999, 3);
        written("act 19 kind 5 rank 99 delay 600 ; ", 1, 19, 5, 99, 600);
        written("act 0 kind 0 rank 0 delay 9999 ; ", 1, 0, 0, 0, 9999);
        written("when 0 does 10 ; ", 2, 0, 10, 0, 0);
        written("when 100 & 1000 does 9 ; ", 3, 100, 1000, 9, 0);
        written("hold 7 ; ", 4, 7, 0, 0, 0);
        // What is written is read as it stands: here with a zone of its own, and rows.
        TowerHouse x = Houses.four();
        x.sentence(0, 3, 2, 5, 3);
        x.sentence(0, 4, 1, 13, 1);
        x.sentence(1, 2, 1, 7, 30);
        x.sentence(2, 3, 2, 0, 0);
        x.sentence(3, 4, 3, 2, 0);
        x.sentence(4, 2, 0, 0, 0);
        Checks.due(2, x.matrix());
        Checks.due(2, x.zone(3, 2));
        Checks.row(Checks.of(0, -1, 1, 7, 30, 1), act(x, 2));
        x.signal(7, 50);
        x.signal(5, 50);
        Checks.due(2, x.zone(3, 3));
        x.signal(8, 50);
        Checks.due(2, x.zone(3, 3));
    }

    private static void sentenceLimits() {
        TowerHouse x = Houses.four();
        Checks.argument(() -> x.sentence(-1, 0, 0, 0, 1));
        Checks.argument(() -> x.sentence(5, 0, 0, 0, 1));
        for (int which = 0; which < 5; which++) {
            int w = which;
            Checks.argument(() -> x.sentence(w, -1, 0, 0, 1));
            Checks.argument(() -> x.sentence(w, 10000, 0, 0, 1));
        }
        for (int which = 0; which < 4; which++) {
            int w = which;
            Checks.argument(() -> x.sentence(w, 0, -1, 0, 1));
            Checks.argument(() -> x.sentence(w, 0, 10000, 0, 1));
        }
        Checks.argument(() -> x.sentence(0, 0, 0, -1, 1));
        Checks.argument(() -> x.sentence(1, 0, 0, 10000, 1));
        Checks.argument(() -> x.sentence(3, 0, 0, 10000, 1));
        Checks.argument(() -> x.sentence(0, 0, 0, 0, 0));
        Checks.argument(() -> x.sentence(0, 0, 0, 0, 13));
        Checks.argument(() -> x.sentence(1, 0, 0, 0, -1));
        Checks.argument(() -> x.sentence(1, 0, 0, 0, 10000));
        Checks.due(9, x.sentence(4, 0, -1, 10000, -1));
        Checks.due(9 + 16, x.sentence(2, 0, 0, -1, 10000));
        Checks.due(25 + 20, x.sentence(3, 0, 0, 0, -1));
    }

    private static void cuts() {
        TowerHouse x = Houses.four();
        Checks.argument(() -> x.cutText(1));
        Checks.argument(() -> x.cutText(-1));
        Checks.due(0, x.cutText(0));
        Houses.write(x, "zone 0 needs 1 of 0;;");
        Checks.due(-1 - 7, x.matrix());
        Checks.due(20, x.cutText(1));
        Checks.due(0, x.matrix());
        Checks.argument(() -> x.cutText(21));
        Checks.due(0, x.cutText(20));
    }

    private static void good(int rows, String text) {
        TowerHouse x = Houses.four();
        Houses.write(x, text);
        Checks.due(rows, x.matrix());
        Checks.due(text.length(), x.cutText(0));
    }

    private static void goodTexts() {
        good(0, "");
        good(0, "  \n ");
        good(1, "zone0needs1of4;act1kind0rank0delay0;when0does1;");
        good(2, "zone 0 needs 2 of 0 13;\nzone 19 needs 1 of 000013 ;act 019 kind 5 rank 99 delay 600;\nwhen 0&19 does 19;when 19&0 does 19;hold 19;");
        good(0, "act 0 kind 0 rank 0 delay 0; hold 0; act 1 kind 0 rank 0 delay 0;");
        good(0, "zone 0 needs 12 of 0 1 2 3 4 5 6 7 8 9 10 11;");
    }

    private static void wrong(int word, String text) {
        TowerHouse x = Houses.four();
        Houses.write(x, text);
        Checks.due(-1 - word, x.matrix());
        Checks.due(text.length(), x.cutText(0));
    }

    private static final String BASE = "zone 0 needs 1 of 4; zone 1 needs 1 of 5; act 0 kind 0 rank 0 delay 0; ";

    private static void wrongWords() {
        wrong(0, "zones 0 needs 1 of 4;");
        wrong(0, "0");
        wrong(0, ";");
        wrong(0, "Zone 0 needs 1 of 4;");
        wrong(0, "\tzone 0 needs 1 of 4;");
        wrong(1, "zone");
        wrong(1, "zone needs");
        wrong(1, "zone 20 needs 1 of 4;");
        wrong(1, "zone 0000000 needs 1 of 4;");
        wrong(2, "zone 000000 need 1 of 4;");
        wrong(1, "zone -1 needs 1 of 4;");
        wrong(2, "zone 0 1 needs 1 of 4;");
        wrong(3, "zone 0 needs 0 of 4;");
        wrong(3, "zone 0 needs 13 of 4;");
        wrong(3, "zone 0 needs 2 of 4;");
        wrong(3, "zone 0 needs 12 of 0 1 2 3 4 5 6 7 8 9 10;");
        wrong(6, "zone 0 needs 2 of 4");
        wrong(6, "zone 0 needs 2 of 4 x;");
        wrong(4, "zone 0 needs 1 or 4;");
        wrong(5, "zone 0 needs 1 of;");
        wrong(5, "zone 0 needs 1 of 14;");
        wrong(7, "zone 0 needs 1 of 4 5 4;");
        wrong(6, "zone 0 needs 1 of 4,5;");
        wrong(6, "zone 0 needs 1 of 4 . ;");
        wrong(7, "zone 0 needs 1 of 4;zon");
        wrong(8, "zone 0 needs 1 of 4;zone 0 needs 1 of 4;");
        wrong(1, "act 20 kind 0 rank 0 delay 0;");
        wrong(3, "act 0 kind 6 rank 0 delay 0;");
        wrong(5, "act 0 kind 0 rank 100 delay 0;");
        wrong(7, "act 0 kind 0 rank 0 delay 601;");
        wrong(8, "act 0 kind 0 rank 0 delay 600");
        wrong(2, "act 0 rank 0 kind 0 delay 0;");
        wrong(10, "act 0 kind 0 rank 0 delay 0;act 0 kind 0 rank 0 delay 0;");
        wrong(1, "hold 0;");
        wrong(24, BASE + "hold 1;");
        wrong(25, BASE + "hold 0");
        wrong(27, BASE + "hold 0;hold 0;");
        wrong(24, BASE + "when 2 does 0;");
        wrong(26, BASE + "when 0 does does;");
        wrong(26, BASE + "when 0 does 1;");
        wrong(26, BASE + "when 0 & 0 does 0;");
        wrong(26, BASE + "when 0 & 2 does 0;");
        wrong(25, BASE + "when 0 1 does 0;");
        wrong(27, BASE + "when 0 & 1 & 1 does 0;");
        wrong(27, BASE + "when 0 does 0");
        wrong(27, BASE + "when 0 does 0 &;");
        wrong(25, BASE + "when 0");
        wrong(1, "when 0 does 0; " + BASE);
        // What is used in a sentence is told in one before it.
        wrong(1, "hold 0; act 0 kind 0 rank 0 delay 0;");
    }

    private static void limits() {
        wrong(17, "zone 0 needs 1 of 0 1 2 3 4 5 6 7 8 9 10 11 12;");
        TowerHouse x = Houses.four();
        Houses.write(x, BASE);
        for (int k = 0; k < 50; k++) {
            x.sentence(2, 0, 0, 0, 0);
        }
        Checks.due(50, x.matrix());
        Checks.due(71 + 50 * 16 + 9, x.sentence(4, 0, 0, 0, 0));
        Checks.due(50, x.matrix());
        x.sentence(2, 0, 0, 0, 0);
        Checks.due(-1 - 23 - 250 - 3, x.matrix());
    }

    private static long[] act(TowerHouse x, int act) {
        long[] all = new long[6];
        for (int what = 0; what < 6; what++) {
            all[what] = x.act(act, what);
        }
        return all;
    }

    private static void newMatrix() {
        TowerHouse x = Houses.four();
        Houses.write(x, BASE + "when 0 does 0;");
        Checks.due(1, x.matrix());
        x.signal(4, 100);
        x.pass(1);
        Checks.due(2, x.act(0, 0));
        Checks.due(1, x.told(5));
        Houses.write(x, "zone");
        Checks.due(-1 - 29, x.matrix());
        Checks.due(2, x.act(0, 0));
        Checks.due(1, x.zone(1, 2));
        x.cutText(4);
        Checks.due(1, x.matrix());
        Checks.due(0, x.act(0, 0));
        Checks.due(0, x.told(5));
        Checks.due(1, x.event(0, 0));
        Checks.argument(() -> x.event(1, 0));
        x.pass(1);
        Checks.due(2, x.act(0, 0));
        Checks.due(2, x.event(0, 0));
        x.cutText(x.cutText(0));
        Checks.due(0, x.matrix());
        Checks.argument(() -> x.act(0, 0));
        Checks.argument(() -> x.zone(0, 0));
        Checks.due(0, x.told(2));
    }

    private static void signals() {
        TowerHouse x = Houses.four();
        Houses.write(x, "zone 0 needs 1 of 13;zone 1 needs 1 of 0;");
        x.matrix();
        Checks.due(0, x.signal(13, 49));
        Checks.due(0, x.zone(0, 0));
        Checks.due(49, x.signal(13, 50));
        Checks.due(1, x.zone(0, 0));
        Checks.due(false, x.fault(13, true));
        Checks.due(0, x.zone(0, 0));
        Checks.due(true, x.fault(13, true));
        Checks.due(true, x.fault(13, false));
        Checks.due(false, x.fault(13, false));
        Checks.due(1, x.zone(0, 0));
        Checks.due(50, x.signal(13, 100));
        Checks.due(100, x.signal(13, 0));
        x.signal(13, 77);
        x.signal(0, 66);
        Checks.due(1, x.zone(1, 0));
        x.pass(1);
        Checks.due(0, x.signal(0, 0));
        Checks.due(77, x.signal(13, 0));
        Checks.argument(() -> x.signal(14, 0));
        Checks.argument(() -> x.signal(-1, 0));
        Checks.argument(() -> x.signal(0, 101));
        Checks.argument(() -> x.signal(0, -1));
        Checks.argument(() -> x.fault(14, true));
        Checks.argument(() -> x.fault(-1, true));
        // Detectors get 10 for each cell of their room with smoke.
        for (int k = 0; k < 4; k++) {
            x.fire(0, k);
        }
        x.fire(4, 0);
        x.fire(20, 20);
        x.pass(1);
        Checks.due(40, x.signal(0, 0));
        Checks.due(10, x.signal(2, 0));
        Checks.due(0, x.signal(1, 0));
        x.pass(10);
        Checks.due(80, x.signal(0, 0));
        x.pass(10);
        Checks.due(100, x.signal(0, 0));
    }

    private static void disabled() {
        TowerHouse x = Houses.four();
        Houses.write(x, "zone 0 needs 1 of 4;");
        x.matrix();
        x.signal(4, 80);
        Checks.due(0, x.disable(4, 3));
        Checks.due(0, x.zone(0, 0));
        x.pass(2);
        Checks.due(0, x.zone(0, 0));
        x.pass(1);
        Checks.due(1, x.zone(0, 0));
        Checks.due(3, x.disable(4, 1000000));
        Checks.due(0, x.zone(0, 0));
        Checks.due(1000000, x.disable(4, 0));
        Checks.due(1, x.zone(0, 0));
        Checks.argument(() -> x.disable(14, 0));
        Checks.argument(() -> x.disable(-1, 0));
        Checks.argument(() -> x.disable(0, -1));
        Checks.argument(() -> x.disable(0, 1000001));
    }

    /** Zone 0 needs one of switches 0 and 1; zone 1 is switch 2 and a faulty one. */
    private static TowerHouse alarm(String acts) {
        TowerHouse x = Houses.four();
        Houses.write(x, "zone 0 needs 1 of 4 5; zone 1 needs 1 of 6 7;" + acts);
        if (x.matrix() < 0) {
            throw new AssertionError("a wrong text");
        }
        return x;
    }

    private static void attends() {
        TowerHouse x = alarm("act 0 kind 5 rank 0 delay 10; act 1 kind 5 rank 0 delay 10; when 0 does 0; when 1 does 1;");
        Checks.due(0, x.attend(0));
        Checks.due(0, x.attend(1));
        x.signal(4, 90);
        x.pass(1);
        Checks.row(Checks.of(1, 1, 5, 0, 10, 0), act(x, 0));
        // One looks at once: it counts, too.
        Checks.due(1, x.attend(0));
        Checks.due(0, x.attend(0));
        x.pass(4);
        x.signal(6, 90);
        x.pass(4);
        Checks.due(1, x.attend(0));
        Checks.due(9, x.act(1, 1));
        Checks.due(1, x.act(0, 1));
        x.pass(1);
        Checks.due(1, x.act(0, 0));
        x.pass(1);
        Checks.due(2, x.act(0, 0));
        Checks.due(1, x.act(1, 0));
        x.pass(7);
        Checks.due(1, x.act(1, 0));
        x.pass(1);
        Checks.due(2, x.act(1, 0));
        Checks.due(-1, x.act(1, 1));
        // It waits another time: it may be looked at again; a look takes nothing of what was confirmed.
        x.signal(4, 0);
        x.pass(1);
        x.signal(4, 90);
        x.pass(1);
        Checks.due(1, x.attend(1));
        Checks.due(0, x.attend(1));
        Checks.due(1, x.attend(0));
        Checks.due(1, x.act(0, 0));
        x.pass(1);
        Checks.due(2, x.act(0, 0));
        // What was confirmed is gone when it rests.
        x.signal(4, 0);
        x.pass(1);
        x.signal(4, 90);
        x.pass(1);
        Checks.due(1, x.attend(1));
        x.signal(4, 0);
        x.pass(1);
        Checks.due(0, x.act(0, 0));
        x.signal(4, 90);
        x.pass(2);
        Checks.due(1, x.act(0, 0));
        Checks.argument(() -> x.attend(2));
        Checks.argument(() -> x.attend(-1));
    }

    private static void resets() {
        TowerHouse x = alarm("act 0 kind 0 rank 1 delay 0; act 1 kind 1 rank 2 delay 0; act 2 kind 4 rank 3 delay 0; act 3 kind 3 rank 1 delay 600;"
            + "when 0 does 0; when 0 does 1; when 0 does 2; when 0 does 3; hold 0; hold 1; hold 3;");
        x.signal(4, 90);
        x.pass(1);
        Checks.due(3, x.told(2));
        Checks.due(0, x.reset());
        x.signal(4, 0);
        x.pass(1);
        // Act 2 does not latch.
        Checks.due(2, x.told(2));
        Checks.due(2, x.event(0, 1));
        Checks.due(0, x.event(0, 2));
        x.pass(3);
        Checks.due(1, x.told(5));
        Checks.due(1, x.told(6));
        x.signal(4, 90);
        Checks.due(0, x.reset());
        x.signal(4, 0);
        Checks.due(2, x.reset());
        Checks.due(0, x.told(5));
        Checks.due(0, x.told(6));
        Checks.row(Checks.of(5, 0, 0), Facts.event(x, 0));
        Checks.row(Checks.of(5, 1, 0), Facts.event(x, 1));
        Checks.due(0, x.reset());
    }

    private static void acts() {
        TowerHouse x = alarm("act 3 kind 5 rank 8 delay 2; when 0 does 3; act 4 kind 1 rank 9 delay 600; hold 4;");
        Checks.row(Checks.of(0, -1, 5, 8, 2, 0), act(x, 3));
        Checks.row(Checks.of(0, -1, 1, 9, 600, 1), act(x, 4));
        x.signal(4, 50);
        x.pass(1);
        Checks.row(Checks.of(1, 1, 5, 8, 2, 0), act(x, 3));
        x.pass(1);
        Checks.due(1, x.act(3, 0));
        x.pass(1);
        Checks.row(Checks.of(2, -1, 5, 8, 2, 0), act(x, 3));
        Checks.row(Checks.of(3, 3, 1), Facts.event(x, 0));
        x.signal(4, 0);
        x.pass(1);
        Checks.due(0, x.act(3, 0));
        Checks.row(Checks.of(4, 3, 0), Facts.event(x, 0));
        // Called no more while it waits: no event, and it begins anew.
        x.signal(5, 50);
        x.pass(2);
        x.signal(5, 0);
        x.pass(1);
        Checks.due(0, x.act(3, 0));
        Checks.row(Checks.of(4, 3, 0), Facts.event(x, 0));
        x.signal(5, 50);
        x.pass(2);
        Checks.row(Checks.of(1, 8, 5, 8, 2, 0), act(x, 3));
        x.pass(1);
        Checks.due(2, x.act(3, 0));
        Checks.argument(() -> x.act(0, 0));
        Checks.argument(() -> x.act(20, 0));
        Checks.argument(() -> x.act(-1, 0));
        Checks.argument(() -> x.act(3, 6));
        Checks.argument(() -> x.act(3, -1));
    }

    private static void sure() {
        TowerHouse x = alarm("zone 2 needs 2 of 8 9; act 0 kind 5 rank 0 delay 600; act 1 kind 5 rank 0 delay 600; act 2 kind 5 rank 0 delay 600;"
            + "when 0 does 0; when 0 & 1 does 1; when 2 does 2; when 1 does 2;");
        x.signal(4, 90);
        x.pass(1);
        Checks.due(1, x.act(0, 0));
        x.signal(5, 90);
        x.pass(1);
        Checks.due(2, x.act(0, 0));
        Checks.due(0, x.act(1, 0));
        x.signal(5, 0);
        x.signal(6, 90);
        x.pass(1);
        Checks.due(1, x.act(1, 0));
        // The only point of zone 1 that is asked is on.
        x.fault(7, true);
        x.pass(1);
        Checks.due(2, x.act(1, 0));
        Checks.due(2, x.act(2, 0));
        // A sure zone whose row is not met does nothing: zone 2 needs two.
        TowerHouse y = alarm("zone 2 needs 2 of 8 9; act 2 kind 5 rank 0 delay 600; when 2 does 2; when 1 does 2;");
        y.signal(6, 90);
        y.pass(1);
        y.signal(8, 90);
        y.disable(9, 100);
        Checks.due(1, y.zone(2, 1));
        Checks.due(0, y.zone(2, 0));
        y.pass(1);
        Checks.due(1, y.act(2, 0));
    }

    private static void zones() {
        TowerHouse x = alarm("zone 2 needs 2 of 8 9 10;");
        Checks.row(Checks.of(0, 0, 2, 0), Facts.zone(x, 2));
        x.signal(8, 50);
        Checks.row(Checks.of(0, 0, 2, 1), Facts.zone(x, 2));
        x.signal(9, 50);
        Checks.row(Checks.of(1, 0, 2, 2), Facts.zone(x, 2));
        x.signal(10, 50);
        Checks.row(Checks.of(1, 1, 2, 3), Facts.zone(x, 2));
        x.fault(10, true);
        Checks.row(Checks.of(1, 1, 2, 2), Facts.zone(x, 2));
        x.disable(9, 5);
        Checks.row(Checks.of(0, 1, 2, 1), Facts.zone(x, 2));
        x.fault(8, true);
        Checks.row(Checks.of(0, 0, 2, 0), Facts.zone(x, 2));
        Checks.argument(() -> x.zone(3, 0));
        Checks.argument(() -> x.zone(20, 0));
        Checks.argument(() -> x.zone(-1, 0));
        Checks.argument(() -> x.zone(2, 4));
        Checks.argument(() -> x.zone(2, -1));
    }

    private static void events() {
        TowerHouse x = alarm("act 5 kind 5 rank 3 delay 0; act 2 kind 5 rank 9 delay 0; act 7 kind 5 rank 3 delay 0; act 1 kind 5 rank 0 delay 0;"
            + "when 0 does 5; when 0 does 2; when 0 does 7; when 0 does 1;");
        Checks.argument(() -> x.event(0, 0));
        x.signal(4, 50);
        x.pass(1);
        Checks.row(Checks.of(1, 1, 1), Facts.event(x, 0));
        Checks.row(Checks.of(1, 7, 1), Facts.event(x, 1));
        Checks.row(Checks.of(1, 5, 1), Facts.event(x, 2));
        Checks.row(Checks.of(1, 2, 1), Facts.event(x, 3));
        Checks.argument(() -> x.event(4, 0));
        for (int k = 0; k < 15; k++) {
            x.signal(4, k % 2 * 50);
            x.pass(1);
        }
        Checks.row(Checks.of(16, 1, 0), Facts.event(x, 0));
        Checks.row(Checks.of(2, 2, 0), Facts.event(x, 59));
        Checks.argument(() -> x.event(60, 0));
        Checks.argument(() -> x.event(-1, 0));
        Checks.argument(() -> x.event(0, 3));
        Checks.argument(() -> x.event(0, -1));
    }

    private static void effects() {
        TowerHouse x = alarm("act 13 kind 3 rank 3 delay 0; act 4 kind 2 rank 9 delay 0; when 0 does 13; when 0 does 4; when 1 does 4;");
        x.address(7, 258);
        x.listen(0, 4, true);
        x.point(5, 99);
        x.signal(4, 50);
        x.pass(1);
        Checks.due(1, x.pointAt(5));
        Checks.due(1, x.station(7, 0));
        x.signal(4, 0);
        x.pass(1);
        Checks.due(0, x.pointAt(5));
        Checks.due(2, x.station(7, 0));
        // 9 characters and what is between them are 115 bit times; what is heard is complete 3 behind them.
        x.pass(2);
        long[] first = {176, 1, 2, 0, 4, 129, 1, 2, 255 ^ 176 ^ 1 ^ 2 ^ 4 ^ 129 ^ 1 ^ 2};
        for (int k = 0; k < first.length; k++) {
            Checks.due(first[k], x.byteAt(k));
        }
        Checks.due(1, x.pointAt(4));
        // The answer's last 0 is in bit time 138, so the next one is said from 189 to 303.
        x.pass(8);
        Checks.due(0, x.byteAt(6));
        Checks.due(1, x.byteAt(7));
        Checks.due(2, x.station(7, 3));
        Checks.due(0, x.pointAt(4));
        // A queue that is full takes no more; acts go all the same.
        for (int k = 0; k < 6; k++) {
            x.send(7, 0, 9, true, 1, 0);
        }
        x.signal(4, 50);
        x.pass(1);
        Checks.due(6, x.station(7, 0));
        Checks.due(2, x.act(4, 0));
        // With a reset, too.
        TowerHouse y = alarm("act 6 kind 3 rank 3 delay 0; act 4 kind 2 rank 9 delay 0; when 0 does 6; when 0 does 4; hold 6; hold 4;");
        y.signal(4, 50);
        y.pass(1);
        y.signal(4, 0);
        Checks.due(2, y.reset());
        Checks.due(0, y.pointAt(4));
        Checks.due(2, y.station(7, 0));
    }

    private static void planned() {
        TowerHouse x = Houses.fourPlanned();
        Checks.state(() -> x.unit(0));
        Checks.argument(() -> x.unit(128));
        Checks.state(() -> x.sentence(4, 0, 0, 0, 0));
        Checks.argument(() -> x.sentence(5, 0, 0, 0, 0));
        Checks.state(() -> x.cutText(0));
        Checks.argument(() -> x.cutText(1));
        Checks.state(x::matrix);
        Checks.argument(() -> x.signal(0, 0));
        Checks.argument(() -> x.fault(0, true));
        Checks.argument(() -> x.disable(0, 0));
        Checks.state(() -> x.attend(0));
        Checks.argument(() -> x.attend(2));
        Checks.state(x::reset);
        Checks.argument(() -> x.act(0, 0));
        Checks.argument(() -> x.zone(0, 0));
        Checks.argument(() -> x.event(0, 0));
        x.find();
        x.build(0);
        Checks.due(0, x.cutText(0));
    }
}
