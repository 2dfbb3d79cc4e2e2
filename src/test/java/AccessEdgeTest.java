/** The edges that promises 9 to 13 name, a test for each of their sentences. */
final class AccessEdgeTest {
    private static final int LEAST = Integer.MIN_VALUE;
    private static final int GREATEST = Integer.MAX_VALUE;
    private static final int OUT = 4;
    private static final int[] NO_MINUTE = {-1, 1000001, LEAST, GREATEST};

    private AccessEdgeTest() {
    }

    static void all() {
        Checks.test("P9 edge: portal, 'line by line, door by door, piece by piece from the low end'", AccessEdgeTest::portalOrder);
        Checks.test("P9 edge: portal, 'where a door joins two different rooms'", AccessEdgeTest::sameRoom);
        Checks.test("P9 edge: portal, 'the first of its cells', '-1 or 24 where A is the outside there'", AccessEdgeTest::firstCells);
        Checks.test("P9 edge: portal, wrong numbers", AccessEdgeTest::noPortal);
        Checks.test("P9 edge: person, GROUP 0 .. 9, PACE 1 .. 5, 'also if there are 40'", AccessEdgeTest::fortyPersons);
        Checks.test("P9 edge: card, '0 .. 1000000; also one that is over', 'also if there are 60'", AccessEdgeTest::sixtyCards);
        Checks.test("P10 edge: right, bounds, 'also if there are 16'", AccessEdgeTest::sixteenRights);
        Checks.test("P10 edge: end, 'also instead of another one: from when it was, NONE'", AccessEdgeTest::ends);
        Checks.test("P10 edge: lost, 'also instead of another one: from when it was, NONE'", AccessEdgeTest::losses);
        Checks.test("P11 edge: two, whether it did", AccessEdgeTest::twos);
        Checks.test("P11 edge: airlock, 'also if they are one', of two portals alone", AccessEdgeTest::airlocks);
        Checks.test("P11 edge: stands, 'that goes on, if it stands so already'", AccessEdgeTest::standing);
        Checks.test("P12 edge: refused 2, 'good up to a lesser minute'", AccessEdgeTest::goodUpTo);
        Checks.test("P12 edge: refused 3, 'known to be lost at this minute'", AccessEdgeTest::lostFrom);
        Checks.test("P12 edge: refused 5, 'from a minute not greater than this one on, not known to be ended at it'", AccessEdgeTest::rightFromTo);
        Checks.test("P12 edge: refused 5, 'from <= it < to', 'over midnight', 'never, if both are alike'", AccessEdgeTest::spans);
        Checks.test("P12 edge: refused 5, 'the room is not the outside'", AccessEdgeTest::outsideNeedsNone);
        Checks.test("P12 edge: refused 6, 'another portal of an AIRLOCK with it is OPEN'", AccessEdgeTest::openAirlock);
        Checks.test("P12 edge: refused 6, as many portals as a row of bits has", AccessEdgeTest::lastOfSixtyFour);
        Checks.test("P12 edge: refused 'by the first of these that is so'", AccessEdgeTest::firstReason);
        Checks.test("P12 edge: ask, 'also if it is none of the portal's rooms'", AccessEdgeTest::askArguments);
        Checks.test("P12 edge: ask, 'in the least cell (by x, then y) of it that is beside the portal's part'", AccessEdgeTest::leastCell);
        Checks.test("P12 edge: both, 'the first one first', 8 'behind all that', one card", AccessEdgeTest::bothReasons);
    }

    private static void portalOrder() {
        // The later door of an earlier line comes first, and of one line the earlier door, wherever it lies.
        TowerHouse x = Houses.fourPlanned();
        x.door(0, 6, 8, 1);
        x.door(0, 3, 5, 1);
        x.find();
        Checks.due(6 + 3, x.build(0));
        Checks.row(Checks.of(0, 4, 0, 0, 1, 0), Facts.portal(x, 0));
        Checks.row(Checks.of(2, 4, 0, 1, 6, 0), Facts.portal(x, 1));
        Checks.row(Checks.of(0, 4, 0, 2, 3, 0), Facts.portal(x, 2));
        Checks.row(Checks.of(2, 4, 0, 2, 4, 0), Facts.portal(x, 3));
        Checks.row(Checks.of(1, 0, 1, 0, 1, 4), Facts.portal(x, 4));
        // A door over three pieces of an upright line, told from its high end: from the low end on.
        TowerHouse y = new TowerHouse();
        PlanTest.square(y, 2, 2, 6);
        y.line(5, 8, 5, 2);
        y.line(2, 4, 5, 4);
        y.line(5, 6, 8, 6);
        y.door(4, 0, 6, 1);
        Checks.due(4, y.find());
        Checks.due(3, y.build(0));
        Checks.row(Checks.of(0, 2, 4, 0, 4, 2), Facts.portal(y, 0));
        Checks.row(Checks.of(1, 2, 4, 0, 4, 4), Facts.portal(y, 1));
        Checks.row(Checks.of(1, 3, 4, 0, 4, 6), Facts.portal(y, 2));
    }

    private static void sameRoom() {
        // No portal: a line that ends inside, one that stands free, one in the outside.
        TowerHouse x = new TowerHouse();
        PlanTest.square(x, 2, 2, 8);
        x.line(5, 2, 5, 6);
        x.line(7, 4, 9, 4);
        x.line(10, 4, 14, 4);
        x.door(4, 0, 4, 1);
        x.door(5, 0, 2, 1);
        x.door(6, 0, 4, 1);
        x.find();
        Checks.due(0, x.build(0));
        Checks.due(0, x.told(0));
        // A line that goes on into the outside: just its part between two rooms. And a door that ends where another room begins.
        TowerHouse y = new TowerHouse();
        PlanTest.square(y, 2, 2, 8);
        y.line(0, 5, 14, 5);
        y.line(4, 5, 4, 10);
        y.door(4, 0, 14, 1);
        y.door(4, 2, 4, 1);
        y.door(4, 4, 10, 1);
        Checks.due(3, y.find());
        Checks.due(2 + 1 + 1, y.build(0));
        Checks.row(Checks.of(1, 0, 4, 0, 2, 5), Facts.portal(y, 0));
        Checks.row(Checks.of(2, 0, 4, 0, 4, 5), Facts.portal(y, 1));
        Checks.row(Checks.of(1, 0, 4, 1, 2, 5), Facts.portal(y, 2));
        Checks.row(Checks.of(2, 0, 4, 2, 4, 5), Facts.portal(y, 3));
    }

    private static void firstCells() {
        TowerHouse x = new TowerHouse();
        PlanTest.square(x, 0, 0, 24);
        x.door(0, 0, 24, 1);
        x.door(1, 23, 24, 1);
        x.door(2, 0, 1, 1);
        x.door(3, 23, 24, 1);
        x.find();
        Checks.due(4, x.build(0));
        Checks.row(Checks.of(0, 1, 0, 0, 0, 0), Facts.portal(x, 0));
        Checks.row(Checks.of(1, 0, 1, 0, 23, 24), Facts.portal(x, 1));
        Checks.row(Checks.of(1, 0, 2, 0, -1, 0), Facts.portal(x, 2));
        Checks.row(Checks.of(0, 1, 3, 0, 23, 23), Facts.portal(x, 3));
        // Where A is the outside, but not beyond the cells, it is the outside's cell.
        TowerHouse y = new TowerHouse();
        PlanTest.square(y, 1, 1, 22);
        y.door(1, 5, 6, 1);
        y.door(2, 5, 6, 1);
        y.find();
        y.build(0);
        Checks.row(Checks.of(1, 0, 1, 0, 6, 23), Facts.portal(y, 0));
        Checks.row(Checks.of(1, 0, 2, 0, 0, 6), Facts.portal(y, 1));
    }

    private static void noPortal() {
        TowerHouse x = Houses.four();
        int[] none = {-1, 6, LEAST, GREATEST};
        for (int v : none) {
            Checks.argument(() -> x.portal(v, 0));
            Checks.argument(() -> x.portal(0, v));
            Checks.argument(() -> x.two(v, true));
            Checks.argument(() -> x.stands(v, true));
            Checks.argument(() -> x.off(v, true));
            Checks.argument(() -> x.off(v, false));
            Checks.argument(() -> x.airlock(v, 0, true));
            Checks.argument(() -> x.airlock(0, v, true));
        }
        Checks.due(0, x.portal(0, 0));
        Checks.due(6, x.portal(5, 5));
        // A house without a portal.
        TowerHouse y = new TowerHouse();
        PlanTest.square(y, 0, 0, 2);
        y.find();
        y.build(0);
        Checks.argument(() -> y.portal(0, 0));
        Checks.argument(() -> y.off(0, false));
    }

    private static void fortyPersons() {
        TowerHouse x = Houses.four();
        int[] noGroup = {-1, 10, LEAST, GREATEST};
        int[] noPace = {0, 6, -1, LEAST, GREATEST};
        for (int v : noGroup) {
            Checks.argument(() -> x.person(v, 1));
        }
        for (int v : noPace) {
            Checks.argument(() -> x.person(0, v));
        }
        for (int k = 0; k < 40; k++) {
            Checks.argument(() -> x.person(9, 0));
            Checks.due(k, x.person(k % 2 * 9, 1 + k % 2 * 4));
        }
        Checks.state(() -> x.person(0, 1));
        Checks.argument(() -> x.person(10, 1));
        Checks.argument(() -> x.person(0, 6));
        Checks.due(OUT, x.where(39, 0));
        int[] none = {-1, 40, LEAST, GREATEST};
        for (int v : none) {
            Checks.argument(() -> x.where(v, 0));
            Checks.argument(() -> x.card(v, 0));
        }
        // One that comes late is in the outside 'since 0', too.
        TowerHouse y = Houses.four();
        y.pass(50);
        Checks.due(0, y.person(0, 1));
        Checks.row(Checks.of(OUT, -1, -1, -1, 0, 0), Facts.where(y, 0));
    }

    private static void sixtyCards() {
        TowerHouse x = Houses.four();
        Checks.argument(() -> x.card(0, 0));
        x.person(0, 1);
        for (int v : NO_MINUTE) {
            Checks.argument(() -> x.card(0, v));
        }
        x.pass(60);
        // One that is over is told all the same.
        Checks.due(0, x.card(0, 0));
        Checks.due(1, x.card(0, 1000000));
        for (int k = 2; k < 60; k++) {
            Checks.argument(() -> x.ask(59, 0, OUT));
            Checks.due(k, x.card(0, 5));
        }
        Checks.state(() -> x.card(0, 5));
        Checks.argument(() -> x.card(1, 5));
        Checks.argument(() -> x.card(0, 1000001));
        Checks.due(4, x.ask(59, 0, OUT));
        int[] none = {-1, 60, LEAST, GREATEST};
        for (int v : none) {
            Checks.argument(() -> x.ask(v, 0, OUT));
            Checks.argument(() -> x.lost(v, 0));
            Checks.argument(() -> x.both(v, 0, 0, OUT));
            Checks.argument(() -> x.both(0, v, 0, OUT));
        }
        Checks.due(-1, x.lost(59, 1000000));
        Checks.due(1000000, x.lost(59, 0));
        Checks.due(3, x.ask(59, 0, OUT));
        Checks.due(4, x.ask(58, 0, OUT));
    }

    private static void sixteenRights() {
        TowerHouse x = Houses.four();
        int[] noGroup = {-1, 10, LEAST, GREATEST};
        int[] noSpan = {-1, 1440, LEAST, GREATEST};
        for (int v : noGroup) {
            Checks.argument(() -> x.right(v, 0, 0, 0, 0));
            Checks.argument(() -> x.right(0, v, 0, 0, 0));
        }
        for (int v : noSpan) {
            Checks.argument(() -> x.right(0, 0, v, 0, 0));
            Checks.argument(() -> x.right(0, 0, 0, v, 0));
        }
        for (int v : NO_MINUTE) {
            Checks.argument(() -> x.right(0, 0, 0, 0, v));
        }
        Checks.due(0, x.right(9, 9, 1439, 1439, 1000000));
        for (int k = 1; k < 16; k++) {
            Checks.argument(() -> x.end(15, 0));
            Checks.due(k, x.right(0, 0, 0, 0, 0));
        }
        Checks.state(() -> x.right(0, 0, 0, 0, 0));
        Checks.argument(() -> x.right(0, 0, 0, 1440, 0));
        Checks.due(-1, x.end(15, 0));
        // All sixteen are looked at, and none is good.
        x.person(0, 1);
        x.card(0, 9);
        Checks.due(5, x.ask(0, 0, 0));
        // The sixteenth is as good as the first.
        TowerHouse y = Houses.four();
        y.person(3, 1);
        y.card(0, 9);
        for (int k = 0; k < 15; k++) {
            y.right(4, 1, 0, 1439, 0);
        }
        Checks.due(5, y.ask(0, 0, 0));
        y.right(3, 1, 0, 1439, 0);
        Checks.due(0, y.ask(0, 0, 0));
    }

    private static void ends() {
        TowerHouse x = Houses.four();
        x.right(0, 1, 0, 1439, 0);
        x.right(0, 1, 0, 1439, 0);
        int[] none = {-1, 2, 16, LEAST, GREATEST};
        for (int v : none) {
            Checks.argument(() -> x.end(v, 0));
        }
        for (int v : NO_MINUTE) {
            Checks.argument(() -> x.end(0, v));
        }
        Checks.due(-1, x.end(0, 0));
        Checks.due(0, x.end(0, 1000000));
        Checks.due(1000000, x.end(0, 3));
        Checks.due(3, x.end(0, 3));
        Checks.due(-1, x.end(1, 5));
        // A later end takes the place of an earlier one, so a right may come to be good again.
        x.person(0, 1);
        x.card(0, 9);
        Checks.due(0, x.ask(0, 0, 0));
        x.end(0, 0);
        x.end(1, 0);
        Checks.due(0, x.ask(0, 0, OUT));
        Checks.due(5, x.ask(0, 0, 0));
        x.end(1, 1);
        Checks.due(0, x.ask(0, 0, 0));
    }

    private static void losses() {
        TowerHouse x = Houses.four();
        x.person(0, 1);
        x.card(0, 9);
        x.card(0, 9);
        x.right(0, 1, 0, 1439, 0);
        for (int v : NO_MINUTE) {
            Checks.argument(() -> x.lost(0, v));
        }
        int[] none = {-1, 2, LEAST, GREATEST};
        for (int v : none) {
            Checks.argument(() -> x.lost(v, 0));
        }
        Checks.due(-1, x.lost(0, 0));
        Checks.due(3, x.ask(0, 0, 0));
        Checks.due(0, x.lost(0, 1000000));
        Checks.due(0, x.ask(0, 0, 0));
        Checks.due(1000000, x.lost(0, 1));
        Checks.due(-1, x.lost(1, 1));
        Checks.due(1, x.lost(1, 0));
        Checks.due(3, x.ask(1, 0, OUT));
        Checks.due(0, x.ask(0, 0, OUT));
    }

    private static void twos() {
        TowerHouse x = Houses.four();
        for (int portal = 0; portal < 6; portal++) {
            int p = portal;
            Checks.due(false, x.two(p, false));
            Checks.due(false, x.two(p, true));
        }
        for (int portal = 0; portal < 6; portal++) {
            Checks.due(true, x.two(portal, portal % 2 == 0));
        }
        for (int portal = 0; portal < 6; portal++) {
            Checks.due(portal % 2 == 0, x.two(portal, false));
        }
    }

    private static void airlocks() {
        TowerHouse x = Houses.four();
        for (int a = 0; a < 6; a++) {
            int p = a;
            Checks.argument(() -> x.airlock(p, p, true));
            Checks.argument(() -> x.airlock(p, p, false));
            for (int b = 0; b < 6; b++) {
                if (a != b) {
                    Checks.due(a > b, x.airlock(a, b, true));
                }
            }
        }
        Checks.due(true, x.airlock(5, 4, false));
        Checks.due(false, x.airlock(4, 5, false));
        Checks.due(true, x.airlock(3, 4, true));
        Checks.due(true, x.airlock(5, 3, true));
        Checks.due(false, x.airlock(4, 5, false));
    }

    private static void standing() {
        TowerHouse x = Houses.four();
        Checks.due(0, x.stands(0, false));
        Checks.due(0, x.stands(1, true));
        x.pass(60);
        x.pass(40);
        // Closed from TIME 0 on: to say so again begins nothing.
        Checks.due(100, x.stands(0, false));
        Checks.due(100, x.stands(0, false));
        Checks.due(100, x.stands(1, true));
        x.pass(1);
        Checks.due(101, x.stands(0, true));
        Checks.due(101, x.stands(1, false));
        Checks.due(0, x.stands(0, true));
        Checks.due(0, x.stands(0, false));
        Checks.due(0, x.stands(0, true));
        x.pass(9);
        Checks.due(9, x.stands(0, true));
        Checks.due(9, x.stands(1, true));
        Checks.due(110, x.stands(5, false));
    }

    /** A house with a person of group 0 in the outside, and a right to zone 1 that is always good. */
    private static TowerHouse one(int until) {
        TowerHouse x = Houses.four();
        x.person(0, 1);
        x.card(0, until);
        x.right(0, 1, 0, 1439, 0);
        return x;
    }

    private static void goodUpTo() {
        TowerHouse x = one(1);
        x.pass(60);
        x.pass(59);
        Checks.due(0, x.ask(0, 0, 0));
        Checks.due(0, x.ask(0, 0, OUT));
        x.pass(1);
        Checks.due(2, x.ask(0, 0, 0));
        Checks.due(2, x.ask(0, 0, OUT));
        TowerHouse y = one(0);
        y.pass(59);
        Checks.due(0, y.ask(0, 0, 0));
        y.pass(1);
        Checks.due(2, y.ask(0, 0, OUT));
    }

    private static void lostFrom() {
        TowerHouse x = one(1000000);
        x.lost(0, 1);
        x.pass(59);
        Checks.due(0, x.ask(0, 0, 0));
        x.pass(1);
        Checks.due(3, x.ask(0, 0, OUT));
        x.lost(0, 2);
        Checks.due(0, x.ask(0, 0, OUT));
        x.pass(60);
        Checks.due(3, x.ask(0, 0, 0));
        // Another card of the same person is not lost by that.
        x.card(0, 1000000);
        Checks.due(0, x.ask(1, 0, 0));
    }

    private static void rightFromTo() {
        TowerHouse x = Houses.four();
        x.person(0, 1);
        x.card(0, 100);
        x.right(0, 1, 0, 1439, 1);
        x.end(0, 2);
        x.pass(59);
        Checks.due(5, x.ask(0, 0, 0));
        x.pass(1);
        Checks.due(0, x.ask(0, 0, 0));
        Checks.due(0, x.ask(0, 0, OUT));
        x.pass(59);
        Checks.due(0, x.ask(0, 0, 0));
        Checks.due(0, x.ask(0, 0, OUT));
        x.pass(1);
        Checks.due(5, x.ask(0, 0, 0));
        // Ended before it begins, it is never good; of another group or zone neither.
        x.right(0, 1, 0, 1439, 2);
        Checks.due(0, x.ask(0, 0, 0));
        Checks.due(0, x.ask(0, 0, OUT));
        x.end(1, 0);
        Checks.due(5, x.ask(0, 0, 0));
        x.right(1, 1, 0, 1439, 0);
        x.right(0, 0, 0, 1439, 0);
        x.right(0, 2, 0, 1439, 0);
        Checks.due(5, x.ask(0, 0, 0));
        Checks.due(5, x.ask(0, 5, 3));
    }

    /** What is told of a card at portal 0 at second 59, 60, 119 and 120, with a right of this span. */
    private static void span(int from, int to, int at59, int at60, int at119, int at120) {
        TowerHouse x = Houses.four();
        x.person(0, 1);
        x.card(0, 100);
        x.right(0, 1, from, to, 0);
        int[] due = {at59, at60, at119, at120};
        int[] more = {59, 1, 59, 1};
        for (int k = 0; k < 4; k++) {
            x.pass(more[k]);
            Checks.due(due[k], x.ask(0, 0, 0));
            if (due[k] == 0) {
                Checks.due(0, x.ask(0, 0, OUT));
            }
        }
    }

    private static void spans() {
        span(0, 1, 0, 5, 5, 5);
        span(1, 2, 5, 0, 0, 5);
        span(0, 2, 0, 0, 0, 5);
        span(2, 1439, 5, 5, 5, 0);
        span(0, 0, 5, 5, 5, 5);
        span(1, 1, 5, 5, 5, 5);
        span(1439, 1439, 5, 5, 5, 5);
        span(1439, 1, 0, 5, 5, 5);
        span(1439, 0, 5, 5, 5, 5);
        span(1, 0, 5, 0, 0, 0);
        span(2, 1, 0, 5, 5, 0);
        span(0, 1439, 0, 0, 0, 0);
    }

    private static void outsideNeedsNone() {
        TowerHouse x = Houses.four();
        x.person(0, 1);
        x.card(0, 0);
        x.right(0, 1, 0, 1, 0);
        x.ask(0, 0, 0);
        Checks.due(0, x.ask(0, 0, OUT));
        x.ask(0, 0, 0);
        x.end(0, 0);
        x.two(0, true);
        Checks.due(7, x.ask(0, 0, OUT));
        x.two(0, false);
        x.airlock(0, 1, true);
        x.stands(1, true);
        Checks.due(6, x.ask(0, 0, OUT));
        x.stands(1, false);
        Checks.due(0, x.ask(0, 0, OUT));
        Checks.due(4, x.ask(0, 0, OUT));
        x.lost(0, 0);
        Checks.due(3, x.ask(0, 0, OUT));
    }

    private static void openAirlock() {
        TowerHouse x = one(100);
        // Itself, and one of no airlock with it, may be open.
        x.stands(0, true);
        x.stands(3, true);
        x.airlock(1, 3, true);
        Checks.due(0, x.ask(0, 0, 0));
        // An airlock of an airlock is none: 0 with 1, 1 with 3.
        x.airlock(0, 1, true);
        Checks.due(0, x.ask(0, 0, OUT));
        x.stands(1, true);
        Checks.due(6, x.ask(0, 0, 0));
        x.airlock(0, 1, false);
        Checks.due(0, x.ask(0, 0, 0));
        // The first and the last portal.
        x.airlock(5, 0, true);
        x.stands(5, true);
        Checks.due(6, x.ask(0, 0, OUT));
        x.stands(5, false);
        x.stands(0, false);
        Checks.due(0, x.ask(0, 0, OUT));
        x.right(0, 4, 0, 1439, 0);
        x.stands(0, true);
        Checks.due(6, x.ask(0, 5, 3));
        x.stands(0, false);
        Checks.due(0, x.ask(0, 5, 3));
    }

    private static void lastOfSixtyFour() {
        // Lines of five pieces: twelve doors over all of one, and one over four pieces, are 64 portals.
        TowerHouse x = PermitTest.comb(new TowerHouse());
        for (int k = 0; k < 12; k++) {
            x.door(k / 6, 0, 10, 1);
        }
        x.door(2, 0, 8, 1);
        x.find();
        Checks.due(64, x.build(0));
        x.person(0, 1);
        x.card(0, 9);
        x.right(0, 0, 0, 1439, 0);
        x.off(63, true);
        int room = x.portal(63, 0);
        Checks.due(0, x.ask(0, 63, room));
        Checks.due(false, x.airlock(63, 0, true));
        Checks.due(0, x.ask(0, 63, room));
        x.stands(0, true);
        Checks.due(6, x.ask(0, 63, room));
        Checks.due(true, x.airlock(0, 63, false));
        Checks.due(0, x.ask(0, 63, room));
    }

    private static void firstReason() {
        // All reasons but CAUGHT at once at portal 0: they are taken away one after the other.
        TowerHouse x = Houses.four();
        x.person(0, 1);
        x.card(0, 0);
        x.two(0, true);
        x.airlock(0, 1, true);
        x.stands(1, true);
        x.lost(0, 1);
        x.pass(60);
        Checks.due(2, x.ask(0, 0, 0));
        x.card(0, 1);
        x.lost(1, 1);
        Checks.due(3, x.ask(1, 0, OUT));
        x.lost(1, 2);
        Checks.due(4, x.ask(1, 0, OUT));
        Checks.due(5, x.ask(1, 0, 0));
        x.right(0, 1, 0, 1439, 0);
        Checks.due(6, x.ask(1, 0, 0));
        x.stands(1, false);
        Checks.due(7, x.ask(1, 0, 0));
        x.two(0, false);
        Checks.due(0, x.ask(1, 0, 0));
        x.fire(1, 0);
        x.pass(1);
        Checks.due(9, x.ask(0, 0, OUT));
        Checks.due(9, x.ask(1, 0, 0));
        // At a portal that is off a card that is not known comes before all but 9.
        TowerHouse y = Houses.four();
        y.person(0, 1);
        y.off(0, true);
        y.card(0, 0);
        y.lost(0, 0);
        y.pass(60);
        Checks.due(1, y.ask(0, 0, 0));
        y.off(0, false);
        Checks.due(2, y.ask(0, 0, 0));
    }

    private static void askArguments() {
        TowerHouse x = one(100);
        int[] noRoom = {-1, 1, 2, 3, 5, LEAST, GREATEST};
        for (int v : noRoom) {
            Checks.argument(() -> x.ask(0, 0, v));
        }
        Checks.argument(() -> x.ask(0, 3, OUT));
        Checks.argument(() -> x.ask(0, 3, 1));
        x.card(0, 5);
        for (int v : noRoom) {
            Checks.argument(() -> x.both(0, 1, 0, v));
        }
        int[] none = {-1, 6, LEAST, GREATEST};
        for (int v : none) {
            Checks.argument(() -> x.ask(0, v, 0));
            Checks.argument(() -> x.both(0, 1, v, 0));
        }
        Checks.argument(() -> x.both(0, 0, 0, 0));
        Checks.argument(() -> x.both(1, 1, 0, 0));
        Checks.row(Checks.of(OUT, -1, -1, -1, 0, 0), Facts.where(x, 0));
    }

    private static void leastCell() {
        // A door of which just the middle piece joins these rooms: the cell is the first one of that piece.
        TowerHouse x = new TowerHouse();
        PlanTest.square(x, 0, 0, 12);
        x.line(0, 6, 12, 6);
        x.line(4, 0, 4, 6);
        x.line(8, 6, 8, 12);
        x.door(4, 1, 11, 1);
        Checks.due(4, x.find());
        Checks.due(3, x.build(0));
        x.person(0, 1);
        x.card(0, 9);
        x.right(0, 0, 0, 1439, 0);
        // Portals: 0 from 1 to 4 (1 above 0), 1 from 4 to 8 (1 above 2), 2 from 8 to 11 (3 above 2).
        Checks.row(Checks.of(1, 0, 4, 0, 1, 6), Facts.portal(x, 0));
        Checks.row(Checks.of(1, 2, 4, 0, 4, 6), Facts.portal(x, 1));
        Checks.row(Checks.of(3, 2, 4, 0, 8, 6), Facts.portal(x, 2));
        x.off(1, true);
        Checks.due(0, x.ask(0, 1, 2));
        x.pass(7);
        Checks.due(1, x.off(1, false));
        Checks.row(Checks.of(2, 4, 5, -1, 0, 7), Facts.where(x, 0));
        Checks.due(0, x.ask(0, 1, 1));
        Checks.row(Checks.of(1, 4, 6, -1, 0, 7), Facts.where(x, 0));
        x.pass(1);
        Checks.due(0, x.ask(0, 0, 0));
        Checks.row(Checks.of(0, 1, 5, -1, 0, 8), Facts.where(x, 0));
    }

    private static void bothReasons() {
        TowerHouse x = Houses.four();
        x.person(0, 1);
        x.person(1, 1);
        x.card(0, 0);
        x.card(0, 0);
        x.card(1, 0);
        x.right(0, 1, 0, 1439, 0);
        // The second one has no right, the first one does: nobody goes in.
        Checks.due(5, x.both(0, 2, 0, 0));
        Checks.due(OUT, x.where(0, 0));
        x.lost(0, 0);
        Checks.due(3, x.both(0, 2, 0, 0));
        Checks.due(5, x.both(2, 0, 0, 0));
        // 8 is behind all that: first another reason is told.
        Checks.due(3, x.both(0, 1, 0, 0));
        Checks.due(3, x.both(1, 0, 0, 0));
        x.lost(0, 1);
        x.airlock(0, 1, true);
        x.stands(1, true);
        Checks.due(6, x.both(0, 1, 0, 0));
        x.stands(1, false);
        Checks.due(8, x.both(0, 1, 0, 0));
        Checks.due(8, x.both(1, 0, 0, 0));
        Checks.due(OUT, x.where(0, 0));
        // Two may ask together where one would do.
        x.right(1, 1, 0, 1439, 0);
        Checks.due(0, x.both(2, 1, 0, 0));
        Checks.row(Checks.of(0, 1, 0, -1, 0, 0), Facts.where(x, 0));
        Checks.row(Checks.of(0, 1, 0, -1, 0, 0), Facts.where(x, 1));
        x.pass(60);
        Checks.due(2, x.both(2, 1, 0, OUT));
    }
}
