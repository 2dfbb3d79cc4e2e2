/** Promises 9 to 13: portals, persons, cards, rights, and who is let in where. */
final class AccessTest {
    private static final int OUT = 4;

    private AccessTest() {
    }

    static void all() {
        Checks.test("P9 portal: line by line, door by door, piece by piece", AccessTest::portals);
        Checks.test("P9 portal: cells beyond the edge, and wrong calls", AccessTest::portalEdges);
        Checks.test("P9 person and card: numbers, limits, wrong calls", AccessTest::personsAndCards);
        Checks.test("P10 right, end, lost: numbers, what was, wrong calls", AccessTest::rightsEndsLost);
        Checks.test("P10 right: spans of the day, since, group, zone", AccessTest::spans);
        Checks.test("P11 two, airlock, stands: what was, wrong calls", AccessTest::portalStates);
        Checks.test("P11 airlock, off: of many portals", AccessTest::manyPortals);
        Checks.test("P12 ask: refused by the first that is so", AccessTest::refusals);
        Checks.test("P12 ask: least cells, in and out", AccessTest::cells);
        Checks.test("P12 both: two cards", AccessTest::bothCards);
        Checks.test("P12 ask while the house is released", AccessTest::released);
        Checks.test("P12 off: what is known, rows, joining", AccessTest::off);
        Checks.test("P12 off: rows are bounded, and wrong calls", AccessTest::offLimits);
        Checks.test("P12 off: cards, ends and losses told behind are not known", AccessTest::offKnowledge);
        Checks.test("P13 where: caught persons and rows", AccessTest::caught);
        Checks.test("P13 inside: zones are names modulo 10", AccessTest::inside);
        Checks.test("P13 against: the first 100 are kept", AccessTest::against);
        Checks.test("P8-13 before the house is built", AccessTest::planned);
    }

    private static void portals() {
        TowerHouse x = Houses.four();
        Checks.due(6, x.told(0));
        Checks.row(Checks.of(0, 4, 0, 0, 1, 0), Facts.portal(x, 0));
        Checks.row(Checks.of(1, 0, 1, 0, 1, 4), Facts.portal(x, 1));
        Checks.row(Checks.of(3, 2, 1, 1, 5, 4), Facts.portal(x, 2));
        Checks.row(Checks.of(0, 2, 4, 0, 3, 1), Facts.portal(x, 3));
        Checks.row(Checks.of(1, 3, 4, 1, 3, 5), Facts.portal(x, 4));
        Checks.row(Checks.of(3, 4, 5, 0, 7, 6), Facts.portal(x, 5));
        // A door over three pieces, in the middle of which a line ends; one more with one room on both sides.
        TowerHouse y = new TowerHouse();
        PlanTest.square(y, 0, 0, 8);
        y.line(8, 4, 0, 4);
        y.line(3, 0, 3, 4);
        y.line(5, 4, 5, 6);
        y.line(6, 6, 6, 7);
        y.door(4, 2, 7, 3);
        y.door(7, 0, 1, 1);
        y.door(4, 3, 5, 1);
        Checks.due(3, y.find());
        Checks.due(4, y.build(0));
        Checks.row(Checks.of(1, 0, 4, 0, 2, 4), Facts.portal(y, 0));
        Checks.row(Checks.of(1, 2, 4, 0, 3, 4), Facts.portal(y, 1));
        Checks.row(Checks.of(1, 2, 4, 0, 5, 4), Facts.portal(y, 2));
        Checks.row(Checks.of(1, 2, 4, 1, 3, 4), Facts.portal(y, 3));
    }

    private static void portalEdges() {
        TowerHouse x = new TowerHouse();
        PlanTest.square(x, 0, 0, 24);
        x.door(0, 5, 6, 1);
        x.door(1, 5, 6, 1);
        x.door(2, 5, 7, 1);
        x.door(3, 5, 6, 1);
        x.find();
        Checks.due(4, x.build(0));
        Checks.row(Checks.of(0, 1, 0, 0, 5, 0), Facts.portal(x, 0));
        Checks.row(Checks.of(1, 0, 1, 0, 5, 24), Facts.portal(x, 1));
        Checks.row(Checks.of(1, 0, 2, 0, -1, 5), Facts.portal(x, 2));
        Checks.row(Checks.of(0, 1, 3, 0, 23, 5), Facts.portal(x, 3));
        Checks.argument(() -> x.portal(4, 0));
        Checks.argument(() -> x.portal(-1, 0));
        Checks.argument(() -> x.portal(0, 6));
        Checks.argument(() -> x.portal(0, -1));
    }

    private static void personsAndCards() {
        TowerHouse x = Houses.four();
        Checks.argument(() -> x.card(0, 5));
        for (int k = 0; k < 40; k++) {
            Checks.due(k, x.person(k % 10, 1 + k % 5));
        }
        Checks.state(() -> x.person(0, 1));
        Checks.argument(() -> x.person(-1, 1));
        Checks.argument(() -> x.person(10, 1));
        Checks.argument(() -> x.person(0, 0));
        Checks.argument(() -> x.person(0, 6));
        Checks.row(Checks.of(OUT, -1, -1, -1, 0, 0), Facts.where(x, 39));
        for (int k = 0; k < 60; k++) {
            Checks.due(k, x.card(k % 3, k % 2 * 1000000));
        }
        Checks.state(() -> x.card(0, 5));
        Checks.argument(() -> x.card(40, 5));
        Checks.argument(() -> x.card(-1, 5));
        Checks.argument(() -> x.card(0, -1));
        Checks.argument(() -> x.card(0, 1000001));
    }

    private static void rightsEndsLost() {
        TowerHouse x = Houses.four();
        x.person(0, 1);
        x.card(0, 100);
        Checks.argument(() -> x.end(0, 5));
        for (int k = 0; k < 16; k++) {
            Checks.due(k, x.right(k % 10, 9, 0, 1439, k % 2 * 1000000));
        }
        Checks.state(() -> x.right(0, 0, 0, 1, 0));
        Checks.argument(() -> x.right(10, 0, 0, 1, 0));
        Checks.argument(() -> x.right(-1, 0, 0, 1, 0));
        Checks.argument(() -> x.right(0, 10, 0, 1, 0));
        Checks.argument(() -> x.right(0, -1, 0, 1, 0));
        Checks.argument(() -> x.right(0, 0, 1440, 1, 0));
        Checks.argument(() -> x.right(0, 0, -1, 1, 0));
        Checks.argument(() -> x.right(0, 0, 0, 1440, 0));
        Checks.argument(() -> x.right(0, 0, 0, -1, 0));
        Checks.argument(() -> x.right(0, 0, 0, 1, 1000001));
        Checks.argument(() -> x.right(0, 0, 0, 1, -1));
        TowerHouse edge = Houses.four();
        Checks.due(0, edge.right(9, 9, 1439, 1439, 1000000));
        Checks.due(1, edge.right(0, 0, 0, 0, 0));
        Checks.due(-1, x.end(15, 7));
        Checks.due(7, x.end(15, 0));
        Checks.due(0, x.end(15, 1000000));
        Checks.due(-1, x.end(0, 3));
        Checks.argument(() -> x.end(16, 0));
        Checks.argument(() -> x.end(-1, 0));
        Checks.argument(() -> x.end(0, -1));
        Checks.argument(() -> x.end(0, 1000001));
        Checks.due(-1, x.lost(0, 9));
        Checks.due(9, x.lost(0, 0));
        Checks.due(0, x.lost(0, 1000000));
        Checks.argument(() -> x.lost(1, 0));
        Checks.argument(() -> x.lost(-1, 0));
        Checks.argument(() -> x.lost(0, -1));
        Checks.argument(() -> x.lost(0, 1000001));
        // A card and a right of the same number are not mixed up.
        Checks.due(3, x.end(0, 4));
        Checks.due(1000000, x.lost(0, 2));
    }

    /** What a card of group 0 is told at portal 0 (zone 1) at a minute, with one right. */
    private static int withRight(int minute, int group, int zone, int from, int to, int since) {
        TowerHouse x = Houses.four();
        x.person(0, 1);
        x.card(0, 1000);
        x.right(group, zone, from, to, since);
        Houses.pass(x, 60 * minute);
        return x.ask(0, 0, 0);
    }

    private static void spans() {
        Checks.due(0, withRight(0, 0, 1, 0, 1, 0));
        Checks.due(5, withRight(1, 0, 1, 0, 1, 0));
        Checks.due(5, withRight(0, 0, 1, 1, 2, 0));
        Checks.due(0, withRight(1, 0, 1, 1, 2, 0));
        Checks.due(5, withRight(0, 1, 1, 0, 1, 0));
        Checks.due(5, withRight(0, 0, 2, 0, 1, 0));
        Checks.due(5, withRight(0, 0, 1, 0, 0, 0));
        Checks.due(5, withRight(2, 0, 1, 2, 2, 0));
        Checks.due(0, withRight(1, 0, 1, 1400, 2, 0));
        Checks.due(5, withRight(2, 0, 1, 1400, 2, 0));
        Checks.due(0, withRight(3, 0, 1, 3, 2, 0));
        Checks.due(5, withRight(1, 0, 1, 0, 5, 2));
        Checks.due(0, withRight(2, 0, 1, 0, 5, 2));
        TowerHouse x = Houses.four();
        x.person(0, 1);
        x.card(0, 1000);
        x.right(0, 1, 0, 1439, 0);
        x.end(0, 1);
        Checks.due(0, x.ask(0, 0, 0));
        Checks.due(0, x.ask(0, 0, OUT));
        Houses.pass(x, 60);
        Checks.due(5, x.ask(0, 0, 0));
        x.end(0, 2);
        Checks.due(0, x.ask(0, 0, 0));
        x.right(0, 2, 0, 1439, 0);
        x.end(0, 0);
        x.right(0, 1, 0, 1439, 0);
        Checks.due(0, x.ask(0, 1, 1));
        Checks.due(0, x.ask(0, 1, 0));
    }

    private static void portalStates() {
        TowerHouse x = Houses.four();
        Checks.due(false, x.two(0, true));
        Checks.due(true, x.two(0, true));
        Checks.due(true, x.two(0, false));
        Checks.due(false, x.two(0, false));
        Checks.argument(() -> x.two(6, true));
        Checks.argument(() -> x.two(-1, true));
        Checks.due(false, x.airlock(0, 1, true));
        Checks.due(true, x.airlock(1, 0, true));
        Checks.due(false, x.airlock(1, 2, true));
        Checks.due(false, x.airlock(0, 2, false));
        Checks.due(true, x.airlock(1, 0, false));
        Checks.due(false, x.airlock(0, 1, false));
        Checks.argument(() -> x.airlock(0, 0, true));
        Checks.argument(() -> x.airlock(0, 6, true));
        Checks.argument(() -> x.airlock(-1, 0, true));
        x.pass(7);
        Checks.due(7, x.stands(0, false));
        Checks.due(7, x.stands(0, true));
        Checks.due(0, x.stands(0, true));
        x.pass(5);
        Checks.due(5, x.stands(0, true));
        Checks.due(5, x.stands(0, false));
        x.pass(2);
        Checks.due(2, x.stands(0, true));
        Checks.due(14, x.stands(1, true));
        Checks.argument(() -> x.stands(6, true));
        Checks.argument(() -> x.stands(-1, true));
    }

    private static void manyPortals() {
        // 8 by 5 spaces; six doors along each of nine lines make 270 portals.
        TowerHouse x = PermitTest.comb(new TowerHouse());
        for (int k = 0; k < 9; k++) {
            for (int door = 0; door < 6; door++) {
                x.door(k, 0, 10, 1);
            }
        }
        x.find();
        Checks.due(270, x.build(0));
        int[] some = {0, 1, 62, 63, 64, 65, 127, 128, 129, 192, 256, 269};
        boolean[][] are = new boolean[some.length][some.length];
        java.util.Random r = new java.util.Random(5);
        for (int k = 0; k < 400; k++) {
            int a = r.nextInt(some.length);
            int b = (a + 1 + r.nextInt(some.length - 1)) % some.length;
            boolean on = r.nextBoolean();
            Checks.due(are[a][b], x.airlock(some[a], some[b], on));
            are[a][b] = on;
            are[b][a] = on;
        }
        TowerHouse y = PermitTest.comb(new TowerHouse());
        for (int door = 0; door < 6; door++) {
            for (int k = 0; k < 9; k++) {
                y.door(k, 0, 10, 1);
            }
        }
        y.find();
        y.build(0);
        y.person(0, 1);
        y.card(0, 9);
        y.right(0, 0, 0, 1439, 0);
        y.airlock(0, 269, true);
        y.stands(269, true);
        int room = y.portal(0, 0) == 40 ? y.portal(0, 1) : y.portal(0, 0);
        Checks.due(6, y.ask(0, 0, room));
        y.stands(269, false);
        y.stands(205, true);
        y.stands(204, true);
        y.stands(13, true);
        Checks.due(0, y.ask(0, 0, room));
        y.off(269, true);
        Checks.due(0, y.off(269, false));
        // The rows of the last portal are its own.
        y.off(268, true);
        y.off(269, true);
        for (int k = 0; k < 20; k++) {
            Checks.due(0, y.ask(0, 268, 40));
        }
        Checks.due(0, y.ask(0, 269, 40));
        Checks.due(1, y.off(269, false));
        Checks.due(20, y.off(268, false));
    }

    private static void refusals() {
        TowerHouse x = Houses.four();
        x.person(0, 1);
        x.card(0, 0);
        x.card(0, 5);
        x.right(0, 1, 0, 1439, 0);
        x.airlock(0, 5, true);
        x.airlock(0, 1, true);
        x.airlock(5, 3, true);
        x.two(0, true);
        x.stands(3, true);
        x.stands(0, true);
        Checks.due(7, x.ask(0, 0, 0));
        x.stands(5, true);
        Checks.due(6, x.ask(0, 0, 0));
        x.stands(5, false);
        x.stands(1, true);
        Checks.due(6, x.ask(1, 0, 0));
        x.end(0, 0);
        Checks.due(5, x.ask(1, 0, 0));
        Checks.due(4, x.ask(1, 0, OUT));
        x.lost(1, 1);
        Checks.due(4, x.ask(1, 0, OUT));
        Houses.pass(x, 60);
        Checks.due(3, x.ask(1, 0, OUT));
        Checks.due(2, x.ask(0, 0, OUT));
        x.lost(0, 0);
        Checks.due(2, x.ask(0, 0, 0));
        x.lost(1, 2);
        Checks.due(4, x.ask(1, 0, OUT));
        Checks.argument(() -> x.ask(2, 0, 0));
        Checks.argument(() -> x.ask(-1, 0, 0));
        Checks.argument(() -> x.ask(0, 6, 0));
        Checks.argument(() -> x.ask(0, -1, 0));
        Checks.argument(() -> x.ask(0, 0, 1));
        Checks.argument(() -> x.ask(0, 0, 5));
        Checks.argument(() -> x.ask(0, 0, -1));
        Checks.row(Checks.of(OUT, -1, -1, -1, 0, 0), Facts.where(x, 0));
    }

    private static void cells() {
        TowerHouse x = Houses.four();
        x.person(0, 1);
        x.card(0, 100);
        for (int zone = 1; zone <= 4; zone++) {
            x.right(0, zone, 0, 1439, 0);
        }
        x.pass(3);
        Checks.due(0, x.ask(0, 0, 0));
        Checks.row(Checks.of(0, 1, 0, -1, 0, 3), Facts.where(x, 0));
        x.pass(2);
        Checks.due(0, x.ask(0, 3, 2));
        Checks.row(Checks.of(2, 4, 1, -1, 0, 5), Facts.where(x, 0));
        Checks.due(0, x.ask(0, 2, 3));
        Checks.row(Checks.of(3, 5, 4, -1, 0, 5), Facts.where(x, 0));
        Checks.due(0, x.ask(0, 4, 1));
        Checks.row(Checks.of(1, 3, 5, -1, 0, 5), Facts.where(x, 0));
        Checks.due(0, x.ask(0, 1, 0));
        Checks.row(Checks.of(0, 1, 3, -1, 0, 5), Facts.where(x, 0));
        x.pass(1);
        Checks.due(0, x.ask(0, 0, OUT));
        Checks.row(Checks.of(OUT, -1, -1, -1, 0, 6), Facts.where(x, 0));
        Checks.due(0, x.ask(0, 5, 3));
        Checks.row(Checks.of(3, 7, 6, -1, 0, 6), Facts.where(x, 0));
        Checks.argument(() -> x.where(1, 0));
        Checks.argument(() -> x.where(-1, 0));
        Checks.argument(() -> x.where(0, 6));
        Checks.argument(() -> x.where(0, -1));
    }

    private static void bothCards() {
        TowerHouse x = Houses.four();
        x.person(0, 1);
        x.person(0, 1);
        x.person(1, 1);
        x.card(0, 100);
        x.card(0, 100);
        x.card(1, 100);
        x.card(2, 100);
        x.card(1, 100);
        x.right(0, 1, 0, 1439, 0);
        x.two(0, true);
        Checks.due(7, x.ask(0, 0, 0));
        Checks.due(8, x.both(0, 1, 0, 0));
        Checks.due(5, x.both(0, 3, 0, 0));
        Checks.due(5, x.both(3, 0, 0, 0));
        x.lost(4, 0);
        Checks.due(3, x.both(4, 3, 0, 0));
        Checks.due(5, x.both(3, 4, 0, 0));
        Checks.due(3, x.both(2, 4, 0, 0));
        Checks.due(OUT, x.where(0, 0));
        Checks.due(0, x.both(0, 2, 0, 0));
        Checks.due(0, x.where(0, 0));
        Checks.due(0, x.where(1, 0));
        Checks.due(4, x.both(0, 2, 0, 0));
        Checks.due(7, x.ask(0, 0, OUT));
        Checks.due(0, x.both(2, 0, 0, OUT));
        Checks.due(0, x.inside(1));
        Checks.argument(() -> x.both(0, 0, 0, 0));
        Checks.argument(() -> x.both(0, 5, 0, 0));
        Checks.argument(() -> x.both(-1, 0, 0, 0));
        Checks.argument(() -> x.both(0, 2, 6, 0));
        Checks.argument(() -> x.both(0, 2, 0, 1));
    }

    private static void released() {
        TowerHouse x = Houses.four();
        x.person(0, 1);
        x.card(0, 0);
        x.card(0, 0);
        x.lost(0, 0);
        x.two(0, true);
        x.airlock(0, 1, true);
        x.stands(1, true);
        OffEdgeTest.release(x, true);
        Checks.due(4, x.ask(0, 0, OUT));
        Checks.due(0, x.ask(0, 0, 0));
        Checks.due(0, x.where(0, 0));
        // At a portal that is off 4 is asked, too, and who is let in goes in.
        x.off(0, true);
        Checks.due(4, x.ask(0, 0, 0));
        Checks.due(0, x.ask(0, 0, OUT));
        Checks.due(OUT, x.where(0, 0));
        Checks.due(0, x.both(0, 1, 0, 0));
        Checks.due(0, x.where(0, 0));
        Checks.due(0, x.off(0, false));
        x.signal(4, 49);
        x.pass(1);
        Checks.due(3, x.ask(0, 0, OUT));
        Checks.due(6, x.ask(1, 0, OUT));
    }

    private static void off() {
        TowerHouse x = Houses.four();
        x.person(0, 1);
        x.person(1, 1);
        x.card(0, 0);
        x.card(1, 100);
        x.right(0, 1, 0, 1439, 0);
        x.right(1, 1, 0, 1439, 0);
        Checks.due(0, x.off(0, false));
        Checks.due(0, x.off(0, true));
        Checks.due(0, x.off(0, true));
        // Where the person is does not count; the person stays where it is.
        Checks.due(0, x.ask(0, 0, OUT));
        Checks.due(0, x.ask(0, 0, 0));
        Checks.due(OUT, x.where(0, 0));
        Checks.due(0, x.ask(1, 0, OUT));
        Checks.due(0, x.both(0, 1, 0, 0));
        x.two(0, true);
        Checks.due(7, x.ask(0, 0, 0));
        x.two(0, false);
        x.airlock(0, 3, true);
        x.stands(3, true);
        Checks.due(6, x.ask(0, 0, 0));
        x.stands(3, false);
        x.pass(60);
        Checks.due(2, x.ask(0, 0, 0));
        Checks.due(0, x.ask(1, 0, 0));
        x.pass(9);
        Checks.due(6, x.off(0, false));
        Checks.row(Checks.of(0, 1, 0, -1, 0, 69), Facts.where(x, 0));
        Checks.row(Checks.of(0, 1, 0, -1, 0, 69), Facts.where(x, 1));
        Checks.due(0, x.against(0, 0));
        Checks.due(0, x.off(0, false));
        // It asks again where the person is.
        Checks.due(4, x.ask(1, 0, 0));
        Checks.argument(() -> x.off(6, true));
        Checks.argument(() -> x.off(-1, false));
    }

    private static void offLimits() {
        TowerHouse x = Houses.four();
        x.person(0, 1);
        x.person(0, 1);
        x.card(0, 100);
        x.card(1, 100);
        x.right(0, 1, 0, 1439, 0);
        x.off(0, true);
        for (int k = 0; k < 18; k++) {
            Checks.due(0, x.ask(0, 0, 0));
        }
        Checks.due(0, x.both(0, 1, 0, 0));
        Checks.state(() -> x.ask(0, 0, 0));
        Checks.state(() -> x.both(0, 1, 0, 0));
        Checks.argument(() -> x.ask(0, 0, 2));
        x.lost(0, 0);
        x.two(0, true);
        Checks.state(() -> x.ask(0, 0, 0));
        OffEdgeTest.release(x, true);
        Checks.state(() -> x.ask(0, 0, 0));
        Checks.due(20, x.off(0, false));
        Checks.due(19, x.against(0, 0));
        x.signal(4, 0);
        x.pass(1);
        x.off(0, true);
        x.two(0, false);
        for (int k = 0; k < 19; k++) {
            Checks.due(0, x.ask(1, 0, 0));
        }
        Checks.state(() -> x.both(0, 1, 0, 0));
        Checks.due(0, x.ask(1, 0, 0));
        Checks.state(() -> x.ask(1, 0, 0));
        Checks.due(20, x.off(0, false));
    }

    private static void offKnowledge() {
        TowerHouse x = Houses.four();
        x.person(0, 1);
        x.card(0, 100);
        x.right(0, 1, 0, 1439, 0);
        x.end(0, 5);
        x.lost(0, 5);
        x.off(0, true);
        x.off(3, true);
        x.end(0, 0);
        x.lost(0, 0);
        x.card(0, 100);
        x.person(5, 1);
        x.right(5, 1, 0, 1439, 0);
        x.off(5, true);
        // Portal 0 knows no new card, but still the old end and loss.
        Checks.due(0, x.ask(0, 0, 0));
        Checks.due(1, x.ask(1, 0, 0));
        Checks.due(3, x.ask(0, 1, 0));
        Checks.due(3, x.ask(0, 5, 3));
        Checks.due(0, x.ask(1, 5, OUT));
        x.card(1, 100);
        Checks.due(1, x.ask(2, 3, 0));
        x.off(3, false);
        x.off(3, true);
        Checks.due(0, x.ask(2, 3, 0));
        Houses.pass(x, 5 * 60);
        Checks.due(3, x.ask(0, 0, 0));
        // When it joins all is known: the card was lost from minute 0 on.
        Checks.due(1, x.off(0, false));
        Checks.due(1, x.against(7, 0));
        Checks.row(Checks.of(0, 0, 0, 3), Facts.against(x, 0));
    }

    private static void caught() {
        TowerHouse x = Houses.four();
        x.person(0, 1);
        x.person(0, 1);
        x.card(0, 100);
        x.card(1, 100);
        x.right(0, 1, 0, 1439, 0);
        x.right(0, 2, 0, 1439, 0);
        Checks.due(0, x.ask(0, 0, 0));
        x.off(1, true);
        Checks.due(0, x.ask(0, 1, 1));
        Checks.due(0, x.ask(1, 1, 1));
        x.end(1, 0);
        x.fire(1, 0);
        Checks.due(0, x.ask(0, 0, OUT));
        Checks.due(0, x.ask(0, 0, 0));
        x.pass(1);
        Checks.row(Checks.of(0, 1, 0, 1, 0, 0), Facts.where(x, 0));
        Checks.due(9, x.ask(0, 0, OUT));
        Checks.due(9, x.ask(0, 1, 1));
        Checks.due(9, x.both(1, 0, 1, 1));
        x.pass(4);
        // The caught one stays; its row is against all the same.
        Checks.due(2, x.off(1, false));
        Checks.row(Checks.of(0, 1, 0, 1, 0, 0), Facts.where(x, 0));
        Checks.row(Checks.of(1, 1, 4, -1, 0, 5), Facts.where(x, 1));
        Checks.due(2, x.against(-1, 0));
        Checks.row(Checks.of(1, 0, 0, 5), Facts.against(x, 0));
        Checks.row(Checks.of(1, 1, 0, 5), Facts.against(x, 1));
    }

    private static void inside() {
        TowerHouse x = Houses.fourPlanned();
        x.find();
        x.name(0, 20);
        x.name(2, 1000);
        x.name(3, 999);
        x.build(0);
        x.person(0, 1);
        x.person(0, 1);
        x.card(0, 9);
        x.card(1, 9);
        x.right(0, 0, 0, 1439, 0);
        x.right(0, 9, 0, 1439, 0);
        Checks.due(0, x.inside(0));
        x.ask(0, 0, 0);
        x.ask(1, 5, 3);
        Checks.due(1, x.inside(0));
        Checks.due(1, x.inside(9));
        Checks.due(0, x.ask(0, 3, 2));
        Checks.due(1, x.inside(0));
        x.fire(4, 1);
        x.pass(1);
        Checks.due(1, x.inside(0));
        Checks.due(1, x.told(1));
        Checks.argument(() -> x.inside(10));
        Checks.argument(() -> x.inside(-1));
    }

    private static void against() {
        TowerHouse x = Houses.four();
        x.person(0, 1);
        x.card(0, 100);
        x.card(0, 0);
        Checks.argument(() -> x.against(0, 1));
        Checks.due(0, x.against(0, 0));
        int all = 0;
        for (int round = 0; round < 6; round++) {
            x.off(0, true);
            for (int k = 0; k < 20 - round; k++) {
                Checks.due(0, x.ask(0, 0, OUT));
            }
            x.lost(0, 0);
            Checks.due(20 - round, x.off(0, false));
            x.lost(0, 1000000);
            all += 20 - round;
            Checks.due(all, x.against(0, 0));
        }
        Checks.row(Checks.of(0, 0, 0, 3), Facts.against(x, 99));
        Checks.argument(() -> x.against(100, 1));
        Checks.argument(() -> x.against(-1, 1));
        Checks.argument(() -> x.against(0, 5));
        Checks.argument(() -> x.against(0, -1));
        Checks.due(105, x.against(100, 0));
    }

    private static void planned() {
        TowerHouse x = Houses.fourPlanned();
        x.find();
        Checks.argument(() -> x.portal(0, 0));
        Checks.state(() -> x.person(0, 1));
        Checks.argument(() -> x.person(10, 1));
        Checks.argument(() -> x.card(0, 1));
        Checks.state(() -> x.right(0, 0, 0, 0, 0));
        Checks.argument(() -> x.end(0, 0));
        Checks.argument(() -> x.lost(0, 0));
        Checks.argument(() -> x.two(0, true));
        Checks.argument(() -> x.airlock(0, 1, true));
        Checks.argument(() -> x.stands(0, true));
        Checks.argument(() -> x.off(0, true));
        Checks.argument(() -> x.ask(0, 0, 0));
        Checks.argument(() -> x.both(0, 1, 0, 0));
        Checks.argument(() -> x.where(0, 0));
        Checks.state(() -> x.inside(0));
        Checks.argument(() -> x.inside(10));
        Checks.argument(() -> x.inside(-1));
        Checks.argument(() -> x.right(0, 0, 0, 1440, 0));
        Checks.state(() -> x.against(0, 0));
        Checks.argument(() -> x.against(0, 1));
    }
}
