/** The edges that promises 15 to 17 name of points, zones, acts and events, a test for each of their sentences. */
final class AlarmEdgeTest {
    private static final int LEAST = Integer.MIN_VALUE;
    private static final int GREATEST = Integer.MAX_VALUE;

    private AlarmEdgeTest() {
    }

    static void all() {
        Checks.test("P15 edge: signal, fault, disable, POINTS '0 .. n - 1', 'n .. n + 9', VALUE '0 .. 100'", AlarmEdgeTest::pointNumbers);
        Checks.test("P15 edge: 'ON if it is 50 or more, alive, and not disabled'", AlarmEdgeTest::onPoints);
        Checks.test("P15 edge: signal, '(a detector's just up to the next second)', '100 at most'", AlarmEdgeTest::detectors);
        Checks.test("P16 edge: disable, 'TIME is that second or more'", AlarmEdgeTest::disabledUntil);
        Checks.test("P17 edge: a zone is ON 'if as many of its points as it needs are on'", AlarmEdgeTest::zonesOn);
        Checks.test("P17 edge: a zone is SURE, 'and there is one'", AlarmEdgeTest::zonesSure);
        Checks.test("P17 edge: a row is MET 'if its zones are on'", AlarmEdgeTest::rowsMet);
        Checks.test("P17 edge: act, 'TIME is its beginning and its delay, or later'", AlarmEdgeTest::delays);
        Checks.test("P17 edge: act, 'if it is called no more it rests again'", AlarmEdgeTest::calledNoMore);
        Checks.test("P17 edge: act, 'or a zone of a row of it that is met is sure'", AlarmEdgeTest::sureActs);
        Checks.test("P17 edge: act, DONE it rests again 'unless it latches'", AlarmEdgeTest::latched);
        Checks.test("P16 edge: attend, 'once for each time that an act waits'", AlarmEdgeTest::looks);
        Checks.test("P16 edge: attend, CONFIRMED '(a LOOK behind that takes nothing of it)'", AlarmEdgeTest::confirms);
        Checks.test("P16 edge: attend, how many, wrong numbers", AlarmEdgeTest::attended);
        Checks.test("P16 edge: reset, 'latched acts that are not called now'", AlarmEdgeTest::resets);
        Checks.test("P17 edge: event, 'acts by RANK, the greatest first, of alike ones by their numbers'", AlarmEdgeTest::ranks);
        Checks.test("P17 edge: event, 'the latest 60', 'there is none such'", AlarmEdgeTest::keptEvents);
        Checks.test("P17 edge: acts of kind 0, 1, 4: 'as long as an act is DONE'", AlarmEdgeTest::kinds);
        Checks.test("P17 edge: acts of kind 2, 'if its queue has room'", AlarmEdgeTest::telegrams);
        Checks.test("P17 edge: acts of kind 3, 'point 4 + (the act's number modulo 6)'", AlarmEdgeTest::setPoints);
        Checks.test("P17 edge: 'not told' acts and zones, wrong numbers", AlarmEdgeTest::notTold);
    }

    /** Zones 0, 1, 2 need 1 of switches 0 1, 2 3, 4 5, which are points 4 to 9. */
    private static TowerHouse alarm(String acts) {
        TowerHouse x = Houses.four();
        for (int k = 0; k < 3; k++) {
            x.sentence(0, k, 1, 4 + 2 * k, 2);
        }
        Houses.write(x, acts);
        if (x.matrix() < 0) {
            throw new AssertionError("a wrong text: " + acts);
        }
        return x;
    }

    private static void pointNumbers() {
        TowerHouse x = Houses.four();
        int[] none = {-1, 14, LEAST, GREATEST};
        for (int v : none) {
            Checks.argument(() -> x.signal(v, 0));
            Checks.argument(() -> x.fault(v, true));
            Checks.argument(() -> x.disable(v, 0));
        }
        int[] noValue = {-1, 101, LEAST, GREATEST};
        for (int v : noValue) {
            Checks.argument(() -> x.signal(13, v));
        }
        int[] noSecond = {-1, 1000001, LEAST, GREATEST};
        for (int v : noSecond) {
            Checks.argument(() -> x.disable(13, v));
        }
        for (int point = 0; point < 14; point += 13) {
            int p = point;
            Checks.due(0, x.signal(p, 100));
            Checks.due(100, x.signal(p, 0));
            Checks.due(false, x.fault(p, true));
            Checks.due(true, x.fault(p, true));
            Checks.due(true, x.fault(p, false));
            Checks.due(0, x.disable(p, 1000000));
            Checks.due(1000000, x.disable(p, 1));
            Checks.due(1, x.disable(p, 0));
        }
        // The least and the greatest number of rooms.
        TowerHouse y = Houses.one(1, 1);
        Checks.due(0, y.signal(10, 7));
        Checks.argument(() -> y.signal(11, 7));
        TowerHouse z = PermitTest.comb(new TowerHouse());
        z.find();
        z.build(0);
        Checks.due(0, z.signal(49, 7));
        Checks.argument(() -> z.fault(50, true));
    }

    private static void onPoints() {
        TowerHouse x = alarm("zone 3 needs 1 of 0;zone 4 needs 1 of 13;");
        int[] points = {0, 13};
        for (int k = 0; k < 2; k++) {
            int zone = 3 + k;
            x.signal(points[k], 49);
            Checks.due(0, x.zone(zone, 0));
            x.signal(points[k], 50);
            Checks.due(1, x.zone(zone, 0));
            x.fault(points[k], true);
            Checks.due(0, x.zone(zone, 0));
            x.fault(points[k], false);
            x.disable(points[k], 1);
            Checks.due(0, x.zone(zone, 0));
            x.disable(points[k], 0);
            Checks.due(1, x.zone(zone, 0));
            x.signal(points[k], 100);
            Checks.due(1, x.zone(zone, 0));
            x.signal(points[k], 0);
            Checks.due(0, x.zone(zone, 0));
        }
    }

    private static void detectors() {
        TowerHouse x = Houses.four();
        x.sentence(0, 0, 1, 1, 1);
        x.matrix();
        x.signal(1, 100);
        x.signal(10, 77);
        Checks.due(1, x.zone(0, 0));
        x.pass(1);
        Checks.due(0, x.zone(0, 0));
        Checks.due(0, x.signal(1, 60));
        Checks.due(77, x.signal(10, 77));
        // 10 a cell of the room: 4 are 40, 5 are 50; 10 and 11 are 100.
        for (int k = 0; k < 4; k++) {
            x.fire(k, 4);
        }
        x.fire(4, 4);
        x.fire(3, 3);
        x.pass(1);
        Checks.due(0, x.zone(0, 0));
        Checks.due(40, x.signal(1, 0));
        x.fire(0, 5);
        Checks.due(0, x.signal(1, 0));
        x.pass(1);
        Checks.due(1, x.zone(0, 0));
        Checks.due(50, x.signal(1, 0));
        for (int k = 0; k < 4; k++) {
            x.fire(k, 6);
        }
        x.pass(1);
        Checks.due(90, x.signal(1, 0));
        x.fire(1, 5);
        x.pass(1);
        Checks.due(100, x.signal(1, 0));
        x.fire(2, 5);
        x.pass(1);
        Checks.due(100, x.signal(1, 0));
        // A detector that is faulty or disabled has its value all the same.
        x.fault(1, true);
        x.pass(1);
        Checks.due(100, x.signal(1, 0));
        Checks.due(0, x.zone(0, 0));
    }

    private static void disabledUntil() {
        TowerHouse x = alarm("act 0 kind 5 rank 0 delay 0;when 0 does 0;");
        x.signal(4, 50);
        x.disable(4, 5);
        x.pass(4);
        Checks.due(0, x.zone(0, 0));
        Checks.due(0, x.act(0, 0));
        x.pass(1);
        Checks.due(1, x.zone(0, 0));
        Checks.due(2, x.act(0, 0));
        Checks.due(5, x.event(0, 0));
        // Until a second that is over, or is this one: not disabled.
        Checks.due(5, x.disable(4, 5));
        Checks.due(1, x.zone(0, 0));
        Checks.due(5, x.disable(4, 6));
        Checks.due(0, x.zone(0, 0));
        Checks.due(6, x.disable(4, 0));
        Checks.due(1, x.zone(0, 0));
    }

    private static void zonesOn() {
        TowerHouse x = Houses.four();
        Houses.write(x, "zone 0 needs 1 of 4 5 6;zone 1 needs 2 of 4 5 6;zone 2 needs 3 of 4 5 6;");
        x.matrix();
        for (int on = 0; on < 4; on++) {
            for (int zone = 0; zone < 3; zone++) {
                Checks.row(Checks.of(on > zone ? 1 : 0, on == 3 ? 1 : 0, zone + 1, on), Facts.zone(x, zone));
            }
            x.signal(4 + on, 50);
        }
        // Twelve of twelve.
        TowerHouse y = Houses.four();
        y.sentence(0, 0, 12, 2, 12);
        y.matrix();
        for (int k = 2; k < 14; k++) {
            Checks.due(0, y.zone(0, 0));
            Checks.due(k - 2, y.zone(0, 3));
            y.signal(k, 50);
        }
        Checks.row(Checks.of(1, 1, 12, 12), Facts.zone(y, 0));
    }

    private static void zonesSure() {
        TowerHouse x = Houses.four();
        Houses.write(x, "zone 0 needs 2 of 4 5 6;");
        x.matrix();
        x.signal(4, 50);
        // Two that are not on, faulty and disabled: they do not count, and the one is all that there is.
        x.fault(5, true);
        Checks.row(Checks.of(0, 0, 2, 1), Facts.zone(x, 0));
        x.disable(6, 9);
        Checks.row(Checks.of(0, 1, 2, 1), Facts.zone(x, 0));
        // None is left: it is not sure.
        x.fault(4, true);
        Checks.row(Checks.of(0, 0, 2, 0), Facts.zone(x, 0));
        x.fault(4, false);
        x.disable(4, 9);
        Checks.row(Checks.of(0, 0, 2, 0), Facts.zone(x, 0));
        x.pass(9);
        Checks.row(Checks.of(0, 0, 2, 1), Facts.zone(x, 0));
        x.signal(6, 50);
        Checks.row(Checks.of(1, 1, 2, 2), Facts.zone(x, 0));
        x.fault(5, false);
        Checks.row(Checks.of(1, 0, 2, 2), Facts.zone(x, 0));
    }

    private static void rowsMet() {
        TowerHouse x = alarm("act 0 kind 5 rank 0 delay 0;act 1 kind 5 rank 0 delay 0;when 0 & 1 does 0;when 1 & 2 does 0;when 2 does 1;");
        x.signal(4, 50);
        x.pass(1);
        Checks.due(0, x.act(0, 0));
        x.signal(4, 0);
        x.signal(6, 50);
        x.pass(1);
        Checks.due(0, x.act(0, 0));
        x.signal(4, 50);
        x.pass(1);
        Checks.due(2, x.act(0, 0));
        Checks.due(0, x.act(1, 0));
        // The other row with it keeps it called.
        x.signal(4, 0);
        x.signal(8, 50);
        x.pass(1);
        Checks.due(2, x.act(0, 0));
        Checks.due(2, x.act(1, 0));
        x.signal(6, 0);
        x.pass(1);
        Checks.due(0, x.act(0, 0));
        Checks.due(2, x.act(1, 0));
    }

    private static void delays() {
        TowerHouse x = alarm("act 0 kind 5 rank 0 delay 0;act 1 kind 5 rank 0 delay 1;act 2 kind 5 rank 0 delay 600;"
            + "when 0 does 0;when 0 does 1;when 0 does 2;");
        x.pass(7);
        x.signal(4, 50);
        // It is called when a second looks at it: since then it waits.
        Checks.due(0, x.act(1, 0));
        x.pass(1);
        Checks.due(2, x.act(0, 0));
        Checks.due(-1, x.act(0, 1));
        Checks.due(1, x.act(1, 0));
        Checks.due(8, x.act(1, 1));
        x.pass(1);
        Checks.due(2, x.act(1, 0));
        Checks.row(Checks.of(9, 1, 1), Facts.event(x, 0));
        Checks.row(Checks.of(8, 0, 1), Facts.event(x, 1));
        Houses.pass(x, 598);
        Checks.due(607, x.told(8));
        Checks.due(1, x.act(2, 0));
        Checks.due(8, x.act(2, 1));
        x.pass(1);
        Checks.due(2, x.act(2, 0));
        Checks.row(Checks.of(608, 2, 1), Facts.event(x, 0));
        Checks.due(3, x.told(2));
    }

    private static void calledNoMore() {
        TowerHouse x = alarm("act 0 kind 5 rank 0 delay 3;when 0 does 0;");
        x.signal(4, 50);
        x.pass(3);
        Checks.due(1, x.act(0, 0));
        // In the second in which its delay would be over it is not called: it rests, and no event comes of it.
        x.signal(4, 49);
        x.pass(1);
        Checks.due(0, x.act(0, 0));
        Checks.due(-1, x.act(0, 1));
        Checks.argument(() -> x.event(0, 0));
        // It waits anew from the beginning.
        x.signal(4, 50);
        x.pass(1);
        Checks.due(5, x.act(0, 1));
        x.pass(2);
        Checks.due(1, x.act(0, 0));
        x.pass(1);
        Checks.due(2, x.act(0, 0));
        Checks.due(8, x.event(0, 0));
        // Not called for no second: a signal that goes and comes between two seconds is not seen.
        x.signal(4, 0);
        x.signal(4, 50);
        x.pass(1);
        Checks.due(2, x.act(0, 0));
        Checks.argument(() -> x.event(1, 0));
    }

    private static void sureActs() {
        TowerHouse x = alarm("act 0 kind 5 rank 0 delay 600;act 1 kind 5 rank 0 delay 600;when 0 & 1 does 0;when 2 does 1;");
        x.signal(4, 50);
        x.signal(5, 50);
        x.pass(1);
        // Zone 0 is sure, but the row is not met.
        Checks.due(1, x.zone(0, 1));
        Checks.due(0, x.act(0, 0));
        x.signal(6, 50);
        x.signal(8, 50);
        x.pass(1);
        Checks.due(2, x.act(0, 0));
        Checks.due(1, x.act(1, 0));
        // The second zone of a row may be the sure one, and it may come to be sure while the act waits.
        TowerHouse y = alarm("act 0 kind 5 rank 0 delay 600;when 0 & 1 does 0;");
        y.signal(4, 50);
        y.signal(6, 50);
        y.pass(5);
        Checks.due(1, y.act(0, 0));
        y.fault(7, true);
        y.pass(1);
        Checks.due(2, y.act(0, 0));
        Checks.due(6, y.event(0, 0));
        // A zone that is sure in a row of another act does nothing for this one.
        TowerHouse z = alarm("act 0 kind 5 rank 0 delay 600;act 1 kind 5 rank 0 delay 600;when 0 does 0;when 1 does 1;");
        z.signal(4, 50);
        z.signal(6, 50);
        z.signal(7, 50);
        z.pass(1);
        Checks.due(1, z.act(0, 0));
        Checks.due(2, z.act(1, 0));
    }

    private static void latched() {
        TowerHouse x = alarm("act 0 kind 5 rank 0 delay 0;act 1 kind 5 rank 0 delay 0;act 2 kind 5 rank 0 delay 2;"
            + "when 0 does 0;when 0 does 1;when 0 does 2;hold 1;hold 2;");
        x.signal(4, 50);
        x.pass(1);
        x.signal(4, 0);
        x.pass(1);
        Checks.due(0, x.act(0, 0));
        Checks.due(2, x.act(1, 0));
        // One that waits does not latch.
        Checks.due(0, x.act(2, 0));
        Checks.row(Checks.of(2, 0, 0), Facts.event(x, 0));
        x.pass(60);
        Checks.due(2, x.act(1, 0));
        // Called again while it is latched: no other event.
        x.signal(4, 50);
        x.pass(1);
        Checks.due(2, x.act(1, 0));
        Checks.row(Checks.of(63, 0, 1), Facts.event(x, 0));
        Checks.row(Checks.of(2, 0, 0), Facts.event(x, 1));
    }

    private static void looks() {
        TowerHouse x = alarm("act 0 kind 5 rank 0 delay 10;when 0 does 0;");
        x.signal(4, 50);
        // At rest nothing waits, even if it will in the next second.
        Checks.due(0, x.attend(0));
        x.pass(1);
        x.pass(9);
        Checks.due(1, x.act(0, 1));
        Checks.due(1, x.attend(0));
        Checks.due(10, x.act(0, 1));
        x.pass(9);
        // Looked at once, a second look begins nothing anew.
        Checks.due(0, x.attend(0));
        Checks.due(10, x.act(0, 1));
        x.pass(1);
        Checks.due(2, x.act(0, 0));
        Checks.due(20, x.event(0, 0));
        Checks.due(0, x.attend(0));
        // It waits another time, and may be looked at again; a look in its first second counts, too.
        x.signal(4, 0);
        x.pass(1);
        x.signal(4, 50);
        x.pass(1);
        Checks.due(22, x.act(0, 1));
        Checks.due(1, x.attend(0));
        Checks.due(22, x.act(0, 1));
        x.pass(5);
        Checks.due(0, x.attend(0));
        x.pass(4);
        Checks.due(1, x.act(0, 0));
        x.pass(1);
        Checks.due(2, x.act(0, 0));
        // With a new matrix, too.
        x.matrix();
        x.pass(1);
        Checks.due(1, x.attend(0));
    }

    private static void confirms() {
        TowerHouse x = alarm("act 0 kind 5 rank 0 delay 10;when 0 does 0;");
        x.signal(4, 50);
        Checks.due(0, x.attend(1));
        x.pass(1);
        Checks.due(1, x.attend(1));
        Checks.due(0, x.attend(1));
        Checks.due(1, x.act(0, 0));
        Checks.due(1, x.attend(0));
        Checks.due(0, x.attend(1));
        x.pass(1);
        Checks.due(2, x.act(0, 0));
        Checks.due(2, x.event(0, 0));
        Checks.due(0, x.attend(1));
        // Confirmed, but not called any more in the next second: it rests, and is not confirmed when it waits again.
        x.signal(4, 0);
        x.pass(1);
        x.signal(4, 50);
        x.pass(1);
        Checks.due(1, x.attend(1));
        x.signal(4, 0);
        x.pass(1);
        Checks.due(0, x.act(0, 0));
        x.signal(4, 50);
        x.pass(2);
        Checks.due(1, x.act(0, 0));
        Checks.due(1, x.attend(1));
        // A look first, then confirmed: done in the next second.
        TowerHouse y = alarm("act 0 kind 5 rank 0 delay 10;when 0 does 0;");
        y.signal(4, 50);
        y.pass(1);
        Checks.due(1, y.attend(0));
        Checks.due(1, y.attend(1));
        y.pass(1);
        Checks.due(2, y.act(0, 0));
        // With a new matrix nothing is confirmed.
        TowerHouse z = alarm("act 0 kind 5 rank 0 delay 10;when 0 does 0;");
        z.signal(4, 50);
        z.pass(1);
        z.attend(1);
        z.matrix();
        z.pass(2);
        Checks.due(1, z.act(0, 0));
    }

    private static void attended() {
        TowerHouse x = Houses.four();
        int[] wrong = {-1, 2, LEAST, GREATEST};
        for (int v : wrong) {
            Checks.argument(() -> x.attend(v));
        }
        Checks.due(0, x.attend(0));
        Checks.due(0, x.attend(1));
        x.sentence(0, 0, 1, 4, 2);
        for (int k = 0; k < 20; k++) {
            x.sentence(1, k, 5, k, 600);
            x.sentence(2, 0, k, 0, 0);
        }
        x.matrix();
        x.signal(4, 50);
        x.pass(1);
        Checks.due(20, x.attend(0));
        Checks.due(0, x.attend(0));
        Checks.due(20, x.attend(1));
        Checks.due(0, x.attend(1));
        x.pass(1);
        Checks.due(20, x.told(2));
    }

    private static void resets() {
        TowerHouse x = alarm("act 5 kind 3 rank 1 delay 0;act 6 kind 3 rank 9 delay 0;act 7 kind 5 rank 5 delay 0;act 8 kind 5 rank 7 delay 0;"
            + "when 0 does 5;when 0 does 6;when 1 does 7;when 0 does 8;hold 5;hold 6;hold 7;");
        Checks.due(0, x.reset());
        x.signal(4, 50);
        x.signal(6, 50);
        x.pass(1);
        Checks.due(4, x.told(2));
        Checks.due(0, x.reset());
        // Called is asked as the points are now, not as they were in the second.
        x.signal(4, 49);
        Checks.due(2, x.reset());
        Checks.row(Checks.of(1, 5, 0), Facts.event(x, 0));
        Checks.row(Checks.of(1, 6, 0), Facts.event(x, 1));
        Checks.due(0, x.act(5, 0));
        Checks.due(2, x.act(7, 0));
        // What does not latch is not reset: it rests by itself in the next second.
        Checks.due(2, x.act(8, 0));
        Checks.due(0, x.pointAt(9));
        Checks.due(0, x.pointAt(4));
        Checks.due(0, x.reset());
        x.pass(1);
        Checks.due(0, x.act(8, 0));
        Checks.due(2, x.act(7, 0));
        x.signal(6, 0);
        x.pass(9);
        Checks.due(1, x.reset());
        Checks.row(Checks.of(11, 7, 0), Facts.event(x, 0));
        // What is disabled does not call, either; time counts.
        x.signal(6, 50);
        x.pass(1);
        x.disable(6, 20);
        Checks.due(1, x.reset());
        x.pass(8);
        Checks.due(20, x.told(8));
        Checks.due(2, x.act(7, 0));
    }

    private static void ranks() {
        TowerHouse x = alarm("act 19 kind 5 rank 99 delay 0;act 18 kind 5 rank 0 delay 0;act 0 kind 5 rank 0 delay 0;act 3 kind 5 rank 50 delay 0;"
            + "act 2 kind 5 rank 50 delay 0;act 4 kind 5 rank 51 delay 0;"
            + "when 0 does 0;when 0 does 2;when 0 does 3;when 0 does 4;when 0 does 18;when 0 does 19;");
        x.signal(4, 50);
        x.pass(1);
        int[] order = {19, 4, 2, 3, 0, 18};
        for (int k = 0; k < 6; k++) {
            Checks.row(Checks.of(1, order[k], 1), Facts.event(x, 5 - k));
        }
        x.signal(4, 0);
        x.pass(1);
        for (int k = 0; k < 6; k++) {
            Checks.row(Checks.of(2, order[k], 0), Facts.event(x, 5 - k));
        }
    }

    private static void keptEvents() {
        TowerHouse x = alarm("act 0 kind 5 rank 0 delay 0;when 0 does 0;");
        int[] noEvent = {-1, 0, LEAST, GREATEST};
        for (int v : noEvent) {
            Checks.argument(() -> x.event(v, 0));
        }
        for (int k = 1; k <= 59; k++) {
            x.signal(4, k % 2 * 50);
            x.pass(1);
        }
        Checks.row(Checks.of(59, 0, 1), Facts.event(x, 0));
        Checks.row(Checks.of(1, 0, 1), Facts.event(x, 58));
        Checks.argument(() -> x.event(59, 0));
        x.signal(4, 0);
        x.pass(1);
        Checks.row(Checks.of(1, 0, 1), Facts.event(x, 59));
        Checks.argument(() -> x.event(60, 0));
        x.signal(4, 50);
        x.pass(1);
        Checks.row(Checks.of(61, 0, 1), Facts.event(x, 0));
        Checks.row(Checks.of(60, 0, 0), Facts.event(x, 1));
        Checks.row(Checks.of(2, 0, 0), Facts.event(x, 59));
        Checks.argument(() -> x.event(60, 0));
        int[] noWhat = {-1, 3, LEAST, GREATEST};
        for (int v : noWhat) {
            Checks.argument(() -> x.event(0, v));
            Checks.argument(() -> x.event(60, v));
        }
        Checks.argument(() -> x.event(GREATEST, 0));
    }

    private static void kinds() {
        TowerHouse x = alarm("act 0 kind 0 rank 0 delay 0;act 1 kind 0 rank 0 delay 0;act 2 kind 1 rank 0 delay 0;act 3 kind 4 rank 0 delay 0;"
            + "act 4 kind 5 rank 0 delay 0;act 5 kind 0 rank 0 delay 600;"
            + "when 0 does 0;when 1 does 1;when 1 does 2;when 2 does 3;when 2 does 4;when 2 does 5;");
        int[][] points = {{4}, {4, 6}, {6}, {6, 8}, {8}, {}};
        long[][] wants = {{1, 0, 0}, {1, 1, 0}, {1, 1, 0}, {1, 1, 1}, {0, 0, 1}, {0, 0, 0}};
        for (int k = 0; k < points.length; k++) {
            for (int p = 4; p < 10; p++) {
                x.signal(p, 0);
            }
            for (int p : points[k]) {
                x.signal(p, 50);
            }
            x.pass(1);
            Checks.row(wants[k], Checks.of(x.told(5), x.told(6), x.told(7)));
        }
    }

    private static void telegrams() {
        TowerHouse x = alarm("act 19 kind 2 rank 0 delay 0;act 4 kind 2 rank 1 delay 0;when 0 does 19;when 0 does 4;");
        for (int k = 0; k < 5; k++) {
            x.send(7, 0, 9, true, 1, 0);
        }
        x.signal(4, 50);
        x.pass(1);
        // There was room for one: that of act 4, which is the first by its rank. The other one is gone for good.
        Checks.due(6, x.station(7, 0));
        Checks.due(2, x.act(19, 0));
        x.signal(4, 0);
        x.pass(1);
        Checks.due(6, x.station(7, 0));
        Checks.due(0, x.act(4, 0));
        Checks.row(Checks.of(2, 19, 0), Facts.event(x, 0));
        // Group 19, data 1 and 2; then 0 and 1. Without a listener it is said four times and lost.
        TowerHouse y = alarm("act 19 kind 2 rank 0 delay 0;when 0 does 19;");
        y.listen(2, 19, true);
        y.signal(4, 50);
        y.pass(5);
        long[] done = {176, 0, 7, 0, 19, 129, 1, 2};
        for (int k = 0; k < 8; k++) {
            Checks.due(done[k], y.byteAt(k));
        }
        Checks.due(1, y.heard(1));
        y.pass(5);
        y.signal(4, 0);
        y.pass(5);
        Checks.due(0, y.byteAt(6));
        Checks.due(1, y.byteAt(7));
        Checks.due(2, y.heard(1));
    }

    private static void setPoints() {
        TowerHouse x = Houses.four();
        x.sentence(0, 0, 1, 4, 2);
        for (int k = 0; k < 6; k++) {
            x.sentence(1, 14 + k, 3, 0, 0);
            x.sentence(2, 0, 14 + k, 0, 0);
        }
        x.matrix();
        for (int p = 4; p < 10; p++) {
            x.point(p, 700 + p);
        }
        // No event, no change.
        x.pass(1);
        Checks.due(704, x.pointAt(4));
        x.signal(4, 50);
        x.pass(1);
        for (int p = 4; p < 10; p++) {
            Checks.due(1, x.pointAt(p));
        }
        // Acts of other kinds set no point.
        TowerHouse y = Houses.four();
        y.sentence(0, 0, 1, 4, 2);
        for (int kind = 0; kind < 6; kind++) {
            if (kind != 3) {
                y.sentence(1, kind, kind, 0, 0);
                y.sentence(2, 0, kind, 0, 0);
            }
        }
        y.matrix();
        y.signal(4, 50);
        y.pass(1);
        Checks.due(5, y.told(2));
        for (int p = 4; p < 10; p++) {
            Checks.due(0, y.pointAt(p));
        }
        // 14 modulo 6 is 2.
        x.cutText(x.cutText(0));
        x.sentence(0, 0, 1, 6, 2);
        x.sentence(1, 14, 3, 0, 0);
        x.sentence(2, 0, 14, 0, 0);
        x.matrix();
        x.point(6, 50);
        x.point(7, 50);
        x.signal(6, 50);
        x.pass(1);
        Checks.due(1, x.pointAt(6));
        Checks.due(50, x.pointAt(7));
        // It is an event that sets the point, not that the act is done.
        x.point(6, 50);
        x.pass(1);
        Checks.due(50, x.pointAt(6));
        x.signal(6, 0);
        x.pass(1);
        Checks.due(0, x.pointAt(6));
    }

    private static void notTold() {
        TowerHouse x = alarm("act 7 kind 5 rank 0 delay 0;");
        int[] noAct = {-1, 0, 6, 8, 19, 20, LEAST, GREATEST};
        for (int v : noAct) {
            Checks.argument(() -> x.act(v, 0));
        }
        int[] noZone = {-1, 3, 19, 20, LEAST, GREATEST};
        for (int v : noZone) {
            Checks.argument(() -> x.zone(v, 0));
        }
        int[] noActWhat = {-1, 6, LEAST, GREATEST};
        for (int v : noActWhat) {
            Checks.argument(() -> x.act(7, v));
        }
        int[] noZoneWhat = {-1, 4, LEAST, GREATEST};
        for (int v : noZoneWhat) {
            Checks.argument(() -> x.zone(0, v));
        }
        // In a text that is wrong it is not told.
        x.sentence(1, 3, 5, 0, 0);
        x.unit('#');
        Checks.due(-1 - 42, x.matrix());
        Checks.argument(() -> x.act(3, 0));
        x.cutText(1);
        Checks.due(0, x.matrix());
        Checks.due(0, x.act(3, 0));
    }
}
