/** The edges that promises 12 and 13 name of portals that are off, of a house that is released, and of persons. */
final class OffEdgeTest {
    private static final int LEAST = Integer.MIN_VALUE;
    private static final int GREATEST = Integer.MAX_VALUE;
    private static final int OUT = 4;

    private OffEdgeTest() {
    }

    static void all() {
        Checks.test("P12 edge: off, '0 when it goes off, or is as it was'", OffEdgeTest::asItWas);
        Checks.test("P12 edge: off, 'knows just those that came before it went off'", OffEdgeTest::known);
        Checks.test("P12 edge: off, 'the person stays where it is', 4 is not asked", OffEdgeTest::staysWhereItIs);
        Checks.test("P12 edge: ask, 'also if the portal is off, and has 20 rows (whether or not a row would come of it)'", OffEdgeTest::twentyRows);
        Checks.test("P12 edge: both, 'also if the portal is off, and has more than 18 rows'", OffEdgeTest::eighteenRows);
        Checks.test("P12 edge: off, 'its rows are gone through in their order'", OffEdgeTest::rowsInOrder);
        Checks.test("P12 edge: AGAINST, 'by what is known now', 'at its minute'", OffEdgeTest::againstAtMinute);
        Checks.test("P12 edge: AGAINST, just 1, 2, 3 or 5", OffEdgeTest::againstReasons);
        Checks.test("P12 edge: AGAINST, '(also of one who is caught)'", OffEdgeTest::caughtRows);
        Checks.test("P12 edge: AGAINST, '(also while the house is RELEASED)'", OffEdgeTest::againstWhileReleased);
        Checks.test("P12 edge: RELEASED, 'just 9 and 4 (this at portals that are off, too) are asked'", OffEdgeTest::released);
        Checks.test("P12 edge: RELEASED, 8 'not as long as the house is RELEASED'", OffEdgeTest::onePersonReleased);
        Checks.test("P12 edge: refused 9, 'the person is CAUGHT'", OffEdgeTest::caught);
        Checks.test("P13 edge: where, 'NONE in the outside', 'NONE if it is not', '0 at first'", OffEdgeTest::wherePersons);
        Checks.test("P13 edge: where, 'by a row when the portal joined, or its latest step'", OffEdgeTest::since);
        Checks.test("P13 edge: inside, 'its name modulo 10; the outside has none', 'caught ones, too'", OffEdgeTest::zones);
        Checks.test("P13 edge: against, 'the first 100 are kept', '(k is not asked)'", OffEdgeTest::keptRows);
    }

    /** Two persons of group 0 with a card each, and a right of theirs to zone 1 that is always good. */
    private static TowerHouse two() {
        TowerHouse x = Houses.four();
        x.person(0, 1);
        x.person(0, 1);
        x.card(0, 100);
        x.card(1, 100);
        x.right(0, 1, 0, 1439, 0);
        return x;
    }

    /** The house is released in the second that passes, or is so no more. */
    static void release(TowerHouse x, boolean on) {
        if (on) {
            Houses.matrix(x, "zone 0 needs 1 of 4; act 0 kind 0 rank 0 delay 0; when 0 does 0;");
        }
        x.signal(4, on ? 50 : 49);
        x.pass(1);
        Checks.due(on ? 1 : 0, x.told(5));
    }

    private static void asItWas() {
        TowerHouse x = two();
        Checks.due(0, x.off(0, false));
        Checks.due(0, x.off(0, true));
        x.ask(0, 0, 0);
        // Off already: its row stays, and what it knows is what it knew.
        x.card(0, 100);
        Checks.due(0, x.off(0, true));
        Checks.due(1, x.ask(2, 0, 0));
        x.ask(1, 0, 0);
        Checks.due(2, x.off(0, false));
        Checks.due(0, x.off(0, false));
        // It goes off again: without rows, and with what was told since.
        Checks.due(0, x.off(0, true));
        Checks.due(0, x.ask(2, 0, 0));
        Checks.due(1, x.off(0, false));
        x.off(0, true);
        Checks.due(0, x.off(0, false));
    }

    private static void known() {
        TowerHouse x = Houses.four();
        x.person(0, 1);
        x.card(0, 100);
        x.off(0, true);
        // A card, a right, an end, a loss: of the same TIME, but told behind it.
        x.card(0, 100);
        x.right(0, 1, 0, 1439, 0);
        Checks.due(5, x.ask(0, 0, 0));
        Checks.due(1, x.ask(1, 0, 0));
        x.off(0, false);
        x.off(0, true);
        x.lost(0, 0);
        x.end(0, 0);
        Checks.due(0, x.ask(0, 0, 0));
        Checks.due(0, x.ask(1, 0, 0));
        x.off(1, true);
        x.end(0, 1000000);
        x.lost(0, 1000000);
        // Portal 1 knows the first end and the first loss, portal 0 none of them, portal 3 the last ones.
        Checks.due(3, x.ask(0, 1, 0));
        Checks.due(5, x.ask(1, 1, 0));
        Checks.due(0, x.ask(0, 0, 0));
        Checks.due(4, x.ask(0, 3, 0));
        x.off(1, false);
        Checks.due(4, x.ask(0, 1, 0));
        // The very next telling behind its going off is not known: a right, then an end, then a loss, then a card.
        TowerHouse z = Houses.four();
        z.person(0, 1);
        z.card(0, 100);
        z.off(0, true);
        z.right(0, 1, 0, 1439, 0);
        Checks.due(5, z.ask(0, 0, 0));
        z.off(0, false);
        z.off(0, true);
        z.end(0, 0);
        Checks.due(0, z.ask(0, 0, 0));
        z.off(0, false);
        z.end(0, 1000000);
        z.off(0, true);
        z.lost(0, 0);
        Checks.due(0, z.ask(0, 0, 0));
        z.off(0, false);
        z.off(0, true);
        z.card(0, 100);
        Checks.due(1, z.ask(1, 0, 0));
        // The last one before it is.
        z.off(0, false);
        z.off(0, true);
        Checks.due(0, z.ask(1, 0, 0));
        // What was told in the very beginning is known even by one that is off from then on.
        TowerHouse y = Houses.four();
        y.off(0, true);
        y.person(0, 1);
        y.card(0, 5);
        Checks.due(1, y.ask(0, 0, OUT));
    }

    private static void staysWhereItIs() {
        TowerHouse x = two();
        x.off(0, true);
        Checks.due(0, x.ask(0, 0, OUT));
        Checks.due(0, x.ask(0, 0, 0));
        Checks.due(0, x.ask(0, 0, 0));
        Checks.row(Checks.of(OUT, -1, -1, -1, 0, 0), Facts.where(x, 0));
        Checks.due(0, x.told(1));
        // It may go elsewhere in the meantime; the rows put it where they tell all the same.
        x.right(0, 4, 0, 1439, 0);
        Checks.due(0, x.ask(0, 5, 3));
        Checks.due(3, x.where(0, 0));
        Checks.due(3, x.off(0, false));
        Checks.due(0, x.where(0, 0));
    }

    private static void twentyRows() {
        TowerHouse x = two();
        x.off(0, true);
        for (int k = 0; k < 20; k++) {
            Checks.due(0, x.ask(k % 2, 0, 0));
        }
        // Also for a card that would be refused, for both rooms, and while the house is released; but a wrong number first.
        x.card(0, 100);
        Checks.state(() -> x.ask(0, 0, 0));
        Checks.state(() -> x.ask(2, 0, 0));
        Checks.state(() -> x.ask(0, 0, OUT));
        Checks.argument(() -> x.ask(0, 0, 1));
        Checks.argument(() -> x.ask(3, 0, 0));
        // Other portals have their own rows.
        x.off(1, true);
        Checks.due(0, x.ask(0, 1, 0));
        release(x, true);
        Checks.state(() -> x.ask(0, 0, 0));
        release(x, false);
        Checks.due(20, x.off(0, false));
        Checks.due(1, x.off(1, false));
        Checks.due(0, x.where(0, 0));
        Checks.due(0, x.where(1, 0));
    }

    private static void eighteenRows() {
        TowerHouse x = two();
        x.off(0, true);
        for (int k = 0; k < 18; k++) {
            Checks.due(0, x.ask(0, 0, 0));
        }
        Checks.due(0, x.both(0, 1, 0, 0));
        Checks.state(() -> x.both(0, 1, 0, 0));
        Checks.due(20, x.off(0, false));
        x.off(0, true);
        for (int k = 0; k < 9; k++) {
            Checks.due(0, x.both(1, 0, 0, 0));
        }
        Checks.due(0, x.ask(0, 0, 0));
        Checks.state(() -> x.both(0, 1, 0, 0));
        Checks.argument(() -> x.both(0, 0, 0, 0));
        Checks.argument(() -> x.both(0, 1, 0, 1));
        x.card(0, 0);
        Checks.state(() -> x.both(0, 2, 0, 0));
        Checks.due(0, x.ask(1, 0, 0));
        Checks.state(() -> x.ask(1, 0, 0));
        Checks.due(20, x.off(0, false));
    }

    private static void rowsInOrder() {
        TowerHouse x = two();
        x.off(0, true);
        x.ask(0, 0, 0);
        x.ask(0, 0, OUT);
        x.ask(1, 0, OUT);
        x.ask(1, 0, 0);
        x.pass(3);
        Checks.due(4, x.off(0, false));
        Checks.row(Checks.of(OUT, -1, -1, -1, 0, 3), Facts.where(x, 0));
        Checks.row(Checks.of(0, 1, 0, -1, 0, 3), Facts.where(x, 1));
        // Both cards of an asking are rows, the first one first.
        TowerHouse y = two();
        y.off(0, true);
        y.both(1, 0, 0, 0);
        y.lost(0, 0);
        y.lost(1, 0);
        Checks.due(2, y.off(0, false));
        Checks.due(1, y.against(0, 2));
        Checks.due(0, y.against(1, 2));
        Checks.due(0, y.where(0, 0));
        Checks.due(0, y.where(1, 0));
    }

    private static void againstAtMinute() {
        TowerHouse x = two();
        x.off(0, true);
        x.pass(59);
        x.ask(0, 0, 0);
        x.pass(1);
        x.ask(0, 0, 0);
        x.pass(60);
        x.ask(0, 0, 0);
        x.lost(0, 1);
        x.pass(60);
        Checks.due(3, x.off(0, false));
        Checks.due(2, x.against(0, 0));
        Checks.row(Checks.of(0, 0, 1, 3), Facts.against(x, 0));
        Checks.row(Checks.of(0, 0, 2, 3), Facts.against(x, 1));
        Checks.row(Checks.of(0, 1, 0, -1, 0, 180), Facts.where(x, 0));
        // Ended from minute 2 on: the row of minute 1 is not against, that of minute 2 is.
        TowerHouse y = two();
        y.off(0, true);
        y.pass(60);
        y.ask(0, 0, 0);
        y.pass(60);
        y.ask(0, 0, 0);
        y.end(0, 2);
        y.pass(60);
        Checks.due(2, y.off(0, false));
        Checks.due(1, y.against(0, 0));
        Checks.row(Checks.of(0, 0, 2, 5), Facts.against(y, 0));
    }

    private static void againstReasons() {
        // That the portal wants two, that an airlock is open, where the person is: none of these is against.
        TowerHouse x = two();
        x.off(0, true);
        x.ask(0, 0, 0);
        x.ask(0, 0, OUT);
        x.ask(0, 0, 0);
        x.two(0, true);
        x.airlock(0, 1, true);
        x.stands(1, true);
        Checks.due(3, x.off(0, false));
        Checks.due(0, x.against(0, 0));
        // For the outside no right is needed; a card that was lost is against all the same.
        TowerHouse y = two();
        y.off(0, true);
        y.ask(0, 0, OUT);
        y.ask(0, 0, 0);
        y.ask(1, 0, OUT);
        y.end(0, 0);
        y.lost(1, 0);
        Checks.due(3, y.off(0, false));
        Checks.due(2, y.against(0, 0));
        Checks.row(Checks.of(0, 0, 0, 5), Facts.against(y, 0));
        Checks.row(Checks.of(0, 1, 0, 3), Facts.against(y, 1));
        // A right that came behind it helps, and so does a loss that was taken back.
        TowerHouse z = two();
        z.off(0, true);
        z.ask(0, 0, 0);
        z.end(0, 0);
        z.lost(0, 0);
        z.right(0, 1, 0, 1439, 0);
        z.lost(0, 1);
        Checks.due(1, z.off(0, false));
        Checks.due(0, z.against(0, 0));
    }

    private static void caughtRows() {
        TowerHouse x = two();
        x.ask(0, 0, 0);
        x.off(0, true);
        x.ask(0, 0, OUT);
        x.ask(1, 0, 0);
        x.fire(1, 0);
        x.pass(1);
        Checks.due(1, x.where(0, 3));
        Checks.due(-1, x.where(1, 3));
        x.lost(0, 0);
        Checks.due(2, x.off(0, false));
        // The caught one stays, with its row against; the other one goes into the smoke, and is caught a second later.
        Checks.row(Checks.of(0, 1, 0, 1, 0, 0), Facts.where(x, 0));
        Checks.due(1, x.against(0, 0));
        Checks.row(Checks.of(0, 0, 0, 3), Facts.against(x, 0));
        Checks.row(Checks.of(0, 1, 0, -1, 0, 1), Facts.where(x, 1));
        x.pass(1);
        Checks.due(2, x.where(1, 3));
        // A row of a caught one that is not against is none.
        TowerHouse y = two();
        y.ask(0, 0, 0);
        y.off(0, true);
        y.ask(0, 0, OUT);
        y.fire(1, 0);
        y.pass(1);
        Checks.due(1, y.off(0, false));
        Checks.due(0, y.against(0, 0));
        Checks.due(0, y.where(0, 0));
    }

    private static void againstWhileReleased() {
        TowerHouse x = two();
        x.off(0, true);
        x.ask(0, 0, 0);
        x.ask(1, 0, 0);
        x.lost(0, 0);
        release(x, true);
        Checks.due(2, x.off(0, false));
        Checks.due(1, x.against(0, 0));
        Checks.row(Checks.of(0, 0, 0, 3), Facts.against(x, 0));
        Checks.due(0, x.where(0, 0));
        Checks.due(0, x.where(1, 0));
    }

    private static void released() {
        TowerHouse x = Houses.four();
        x.person(0, 1);
        x.off(0, true);
        // Not known, over, lost, without a right, an airlock open, two wanted.
        x.card(0, 0);
        x.lost(0, 0);
        x.two(0, true);
        x.airlock(0, 1, true);
        x.stands(1, true);
        x.pass(60);
        Checks.due(1, x.ask(0, 0, 0));
        release(x, true);
        Checks.due(4, x.ask(0, 0, OUT));
        Checks.due(0, x.ask(0, 0, 0));
        Checks.row(Checks.of(0, 1, 0, -1, 0, 61), Facts.where(x, 0));
        Checks.due(4, x.ask(0, 0, 0));
        Checks.due(4, x.ask(0, 1, 0));
        Checks.due(0, x.ask(0, 1, 1));
        Checks.due(4, x.ask(0, 0, OUT));
        // No row came of it.
        Checks.due(0, x.off(0, false));
        Checks.due(1, x.where(0, 0));
        release(x, false);
        Checks.due(2, x.ask(0, 1, 0));
    }

    private static void onePersonReleased() {
        TowerHouse x = two();
        x.card(0, 100);
        Checks.due(8, x.both(0, 2, 0, 0));
        release(x, true);
        x.pass(5);
        Checks.due(0, x.both(0, 2, 0, 0));
        Checks.row(Checks.of(0, 1, 0, -1, 0, 6), Facts.where(x, 0));
        Checks.due(4, x.both(0, 2, 0, 0));
        Checks.due(4, x.both(0, 1, 0, OUT));
        Checks.due(4, x.both(1, 0, 0, OUT));
        Checks.due(0, x.both(2, 0, 0, OUT));
        release(x, false);
        x.off(0, true);
        Checks.due(8, x.both(2, 0, 0, 0));
        Checks.due(0, x.off(0, false));
    }

    private static void caught() {
        TowerHouse x = two();
        x.card(0, 0);
        x.ask(0, 0, 0);
        x.fire(1, 0);
        // In smoke, but not yet caught: that is looked at in a second.
        Checks.due(0, x.ask(0, 0, OUT));
        Checks.due(0, x.ask(0, 0, 0));
        x.pass(1);
        Checks.due(9, x.ask(0, 0, OUT));
        Checks.due(9, x.ask(2, 0, 0));
        x.pass(60);
        Checks.due(9, x.ask(2, 0, OUT));
        x.off(0, true);
        Checks.due(9, x.ask(0, 0, OUT));
        x.card(0, 5);
        Checks.due(9, x.ask(3, 0, OUT));
        Checks.due(9, x.both(1, 0, 0, 0));
        Checks.due(9, x.both(0, 1, 0, 0));
        // The first one's reason is told: this card is over.
        x.card(1, 0);
        x.off(0, false);
        Checks.due(2, x.both(4, 0, 0, 0));
        release(x, true);
        Checks.due(9, x.ask(0, 0, OUT));
        Checks.due(9, x.both(1, 0, 0, 0));
        Checks.due(OUT, x.where(1, 0));
    }

    private static void wherePersons() {
        TowerHouse x = two();
        Checks.row(Checks.of(OUT, -1, -1, -1, 0, 0), Facts.where(x, 0));
        x.pass(4);
        x.ask(0, 0, 0);
        Checks.row(Checks.of(0, 1, 0, -1, 0, 4), Facts.where(x, 0));
        x.pass(1);
        x.ask(0, 0, OUT);
        Checks.row(Checks.of(OUT, -1, -1, -1, 0, 5), Facts.where(x, 0));
        int[] noWhat = {-1, 6, LEAST, GREATEST};
        for (int v : noWhat) {
            Checks.argument(() -> x.where(0, v));
        }
        int[] nobody = {-1, 2, LEAST, GREATEST};
        for (int v : nobody) {
            Checks.argument(() -> x.where(v, 0));
        }
        // Smoke in the outside catches nobody.
        x.fire(1, 0);
        x.fire(20, 20);
        x.pass(5);
        Checks.due(-1, x.where(0, 3));
    }

    private static void since() {
        TowerHouse x = two();
        x.off(0, true);
        x.pass(5);
        x.ask(0, 0, 0);
        x.pass(5);
        Checks.due(0, x.where(0, 5));
        x.off(0, false);
        Checks.due(10, x.where(0, 5));
        // From a cell to the next one, and out: a step each second.
        TowerHouse y = Houses.one(3, 1);
        y.person(0, 1);
        y.card(0, 9);
        y.right(0, 0, 0, 1439, 0);
        y.ask(0, 0, 0);
        Houses.matrix(y, "zone 0 needs 1 of 1; act 0 kind 4 rank 0 delay 0; when 0 does 0;");
        y.signal(1, 100);
        y.pass(1);
        Checks.row(Checks.of(1, -1, -1, -1, 1, 1), Facts.where(y, 0));
        // A refused asking moves nobody.
        Checks.due(4, y.ask(0, 0, 1));
        Checks.due(1, y.where(0, 5));
    }

    private static void zones() {
        TowerHouse x = Houses.fourPlanned();
        x.find();
        x.name(1, 10);
        x.name(2, 999);
        x.name(3, 1000);
        x.build(0);
        for (int k = 0; k < 4; k++) {
            x.person(0, 1);
            x.card(k, 100);
        }
        x.right(0, 0, 0, 1439, 0);
        x.right(0, 9, 0, 1439, 0);
        int[] noZone = {-1, 10, LEAST, GREATEST};
        for (int v : noZone) {
            Checks.argument(() -> x.inside(v));
        }
        // Rooms 0 (without a name), 1 and 3 are of zone 0; nobody in the outside counts.
        Checks.due(0, x.inside(0));
        x.ask(0, 0, 0);
        x.ask(1, 5, 3);
        x.ask(2, 0, 0);
        x.ask(2, 1, 1);
        Checks.due(3, x.inside(0));
        Checks.due(0, x.ask(1, 2, 2));
        Checks.due(2, x.inside(0));
        Checks.due(1, x.inside(9));
        for (int zone = 1; zone < 9; zone++) {
            Checks.due(0, x.inside(zone));
        }
        x.fire(1, 0);
        x.pass(1);
        Checks.due(1, x.where(0, 3));
        Checks.due(2, x.inside(0));
        Checks.due(2, x.told(1));
    }

    private static void keptRows() {
        TowerHouse x = two();
        int[] noWhat = {-1, 5, LEAST, GREATEST};
        int[] any = {-1, 0, 100, LEAST, GREATEST};
        for (int k : any) {
            Checks.due(0, x.against(k, 0));
            Checks.argument(() -> x.against(k, 1));
            Checks.argument(() -> x.against(k, 4));
            for (int v : noWhat) {
                Checks.argument(() -> x.against(k, v));
            }
        }
        // 99 rows of card 0 at portal 0, then three of card 1 at portal 1.
        for (int round = 0; round < 5; round++) {
            x.lost(0, 1000000);
            x.off(0, true);
            for (int k = 0; k < (round < 4 ? 20 : 19); k++) {
                x.ask(0, 0, OUT);
            }
            x.lost(0, 0);
            x.off(0, false);
        }
        Checks.due(99, x.against(0, 0));
        Checks.argument(() -> x.against(99, 1));
        Checks.row(Checks.of(0, 0, 0, 3), Facts.against(x, 98));
        x.off(1, true);
        x.pass(60);
        for (int k = 0; k < 3; k++) {
            Checks.due(0, x.ask(1, 1, 0));
        }
        x.lost(1, 0);
        Checks.due(3, x.off(1, false));
        for (int k : any) {
            Checks.due(102, x.against(k, 0));
        }
        Checks.row(Checks.of(1, 1, 1, 3), Facts.against(x, 99));
        Checks.argument(() -> x.against(100, 1));
        Checks.argument(() -> x.against(101, 1));
        Checks.argument(() -> x.against(-1, 1));
        Checks.row(Checks.of(0, 0, 0, 3), Facts.against(x, 0));
    }
}
