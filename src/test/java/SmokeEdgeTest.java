/** The edges that promises 27 and 28 name of smoke, walking numbers, ways out and seconds. */
final class SmokeEdgeTest {
    private static final int LEAST = Integer.MIN_VALUE;
    private static final int GREATEST = Integer.MAX_VALUE;
    private static final int[] NO_CELL = {-1, 24, LEAST, GREATEST};

    private SmokeEdgeTest() {
    }

    static void all() {
        Checks.test("P27 edge: fire, 'also into one that is in no space: whether there was none'", SmokeEdgeTest::fires);
        Checks.test("P27 edge: smoke, 'in each second that is a multiple of 10'", SmokeEdgeTest::tenSeconds);
        Checks.test("P27 edge: smoke, 'not through a line, if there is no door of it there'", SmokeEdgeTest::throughDoors);
        Checks.test("P27 edge: smoke, at the edge of the cells", SmokeEdgeTest::edgeOfCells);
        Checks.test("P27 edge: cell, '1 its walking number, NONE without', wrong numbers", SmokeEdgeTest::noNumbers);
        Checks.test("P27 edge: cell, '1 if one goes from it into a cell that is in no space (also beyond the 24 cells)'", SmokeEdgeTest::numberOne);
        Checks.test("P27 edge: cell, '1 more than the least', '(They do not ask for smoke.)'", SmokeEdgeTest::leastNumbers);
        Checks.test("P27 edge: cell, 'how many persons are in it (not caught)'", SmokeEdgeTest::personsInCells);
        Checks.test("P28 edge: pass, 'n is not 1 .. 60', 'also if TIME would be above 6000'", SmokeEdgeTest::passBounds);
        Checks.test("P28 edge: CAUGHT 'when that is looked at in a SECOND'", SmokeEdgeTest::caught);
        Checks.test("P28 edge: 'was PACE seconds ago or more'", SmokeEdgeTest::paces);
        Checks.test("P28 edge: 'by the numbers of their cells, the least first', 'of these by their own numbers'", SmokeEdgeTest::turns);
        Checks.test("P28 edge: 'those without a number last'", SmokeEdgeTest::withoutNumber);
        Checks.test("P28 edge: 'in the order (x + 1, y), (x - 1, y), (x, y + 1), (x, y - 1)'", SmokeEdgeTest::directions);
        Checks.test("P28 edge: 'has no smoke'", SmokeEdgeTest::smokeInTheWay);
        Checks.test("P28 edge: 'if fewer went through this door in this second than its rate'", SmokeEdgeTest::rates);
        Checks.test("P28 edge: 'of several doors at this place the first one that lets through'", SmokeEdgeTest::severalDoors);
        Checks.test("P28 edge: A SECOND, one thing behind the other", SmokeEdgeTest::second);
        Checks.test("P28 edge: told, wrong numbers, at first", SmokeEdgeTest::toldNumbers);
    }

    /** So many persons of these paces come in by portal 0 into room 0, with a right to zone 0. */
    private static void comeIn(TowerHouse x, int portal, int... paces) {
        x.right(0, 0, 0, 1439, 0);
        for (int k = 0; k < paces.length; k++) {
            Checks.due(k, x.person(0, paces[k]));
            x.card(k, 1000);
            Checks.due(0, x.ask(k, portal, 0));
        }
    }

    private static void fires() {
        TowerHouse x = Houses.four();
        for (int v : NO_CELL) {
            Checks.argument(() -> x.fire(v, 0));
            Checks.argument(() -> x.fire(0, v));
        }
        int[][] cells = {{0, 0}, {0, 23}, {23, 0}, {23, 23}, {7, 7}, {8, 8}};
        for (int k = 0; k < cells.length; k++) {
            Checks.due(true, x.fire(cells[k][0], cells[k][1]));
            Checks.due(false, x.fire(cells[k][0], cells[k][1]));
            Checks.due(k + 1, x.told(3));
            Checks.due(1, x.cell(cells[k][0], cells[k][1], 0));
        }
        Checks.due(0, x.cell(8, 7, 0));
        // All cells of the plan.
        TowerHouse y = new TowerHouse();
        PlanTest.square(y, 0, 0, 1);
        y.find();
        y.build(0);
        for (int k = 0; k < 24; k++) {
            for (int m = 0; m < 24; m += 2) {
                Checks.due(true, y.fire(k, m + k % 2));
            }
        }
        Checks.due(288, y.told(3));
        y.pass(10);
        // But for the one that is walled in: (0, 0) had smoke, and it does not matter to the others.
        Checks.due(576, y.told(3));
    }

    private static void tenSeconds() {
        TowerHouse x = Houses.one(6, 6);
        x.pass(9);
        x.fire(5, 5);
        x.pass(1);
        // Told in second 9, it spreads in 10; one cell far in each of these seconds.
        Checks.due(5, x.told(3));
        x.pass(9);
        Checks.due(5, x.told(3));
        x.pass(1);
        Checks.due(13, x.told(3));
        Checks.due(1, x.cell(7, 5, 0));
        Checks.due(0, x.cell(8, 5, 0) + x.cell(7, 6, 0));
        // Told in second 20, behind that second's spreading, it stays alone up to 30.
        TowerHouse y = Houses.one(6, 6);
        y.pass(20);
        y.fire(5, 5);
        y.pass(9);
        Checks.due(1, y.told(3));
        y.pass(1);
        Checks.due(5, y.told(3));
        // One call that passes over several of them.
        TowerHouse z = Houses.one(6, 6);
        z.fire(5, 5);
        z.pass(20);
        Checks.due(13, z.told(3));
    }

    private static void throughDoors() {
        // A door from 1 to 3 of a line of 4: through cells 1 and 2 of it, not through 0 and 3, in both directions.
        for (int side = 0; side < 2; side++) {
            TowerHouse x = new TowerHouse();
            PlanTest.square(x, 2, 2, 8);
            x.line(6, 2, 6, 10);
            x.door(4, 1, 3, 1);
            x.find();
            x.build(0);
            for (int k = 0; k < 4; k++) {
                x.fire(side == 0 ? 5 : 6, 2 + k);
            }
            x.pass(10);
            int[] due = {0, 1, 1, 0};
            for (int k = 0; k < 4; k++) {
                Checks.due(due[k], x.cell(side == 0 ? 6 : 5, 2 + k, 0));
            }
        }
        // A level line, and one that stands in the outside: without a door nothing comes through.
        TowerHouse y = new TowerHouse();
        PlanTest.square(y, 2, 2, 4);
        y.line(10, 5, 14, 5);
        y.door(4, 3, 4, 1);
        y.door(1, 0, 1, 1);
        y.find();
        y.build(0);
        for (int k = 0; k < 4; k++) {
            y.fire(10 + k, 4);
            y.fire(2 + k, 5);
        }
        y.pass(10);
        for (int k = 0; k < 4; k++) {
            Checks.due(k == 3 ? 1 : 0, y.cell(10 + k, 5, 0));
            Checks.due(k == 0 ? 1 : 0, y.cell(2 + k, 6, 0));
        }
    }

    private static void edgeOfCells() {
        TowerHouse x = new TowerHouse();
        PlanTest.square(x, 0, 0, 24);
        x.door(0, 0, 24, 5);
        x.door(1, 0, 24, 5);
        x.door(2, 0, 24, 5);
        x.door(3, 0, 24, 5);
        x.find();
        x.build(0);
        x.fire(0, 0);
        x.fire(23, 23);
        x.pass(10);
        Checks.due(6, x.told(3));
        Checks.due(0, x.cell(0, 23, 0) + x.cell(23, 0, 0));
        // It does not come round the edge: from (x, 23) to (x + 1, 0) it is far.
        TowerHouse y = Houses.one(1, 1);
        y.fire(10, 23);
        y.fire(20, 0);
        y.pass(10);
        Checks.due(4 + 4, y.told(3));
        Checks.due(0, y.cell(11, 0, 0) + y.cell(19, 23, 0));
        y.pass(50);
        Checks.due(0, y.cell(2, 23, 0) + y.cell(23, 12, 0));
    }

    private static void noNumbers() {
        TowerHouse x = Houses.one(3, 3);
        for (int v : NO_CELL) {
            for (int what = 0; what < 3; what++) {
                int w = what;
                Checks.argument(() -> x.cell(v, 0, w));
                Checks.argument(() -> x.cell(0, v, w));
            }
        }
        int[] noWhat = {-1, 3, LEAST, GREATEST};
        for (int v : noWhat) {
            Checks.argument(() -> x.cell(0, 0, v));
        }
        // In no space: none, also beside a door.
        Checks.due(-1, x.cell(2, 1, 1));
        Checks.due(-1, x.cell(23, 23, 1));
        // A room without a way out, and one that just leads into that.
        TowerHouse y = new TowerHouse();
        PlanTest.square(y, 2, 2, 4);
        y.line(4, 2, 4, 6);
        y.door(4, 0, 1, 1);
        y.find();
        y.build(0);
        for (int k = 2; k < 6; k++) {
            Checks.due(-1, y.cell(k, 2, 1));
            Checks.due(-1, y.cell(k, 5, 1));
        }
    }

    private static void numberOne() {
        // A door in the middle of each edge of the plan, and the numbers of the corners from there.
        int[][] doors = {{0, 12, 0}, {1, 12, 23}, {2, 0, 12}, {3, 23, 12}};
        for (int[] d : doors) {
            TowerHouse x = new TowerHouse();
            PlanTest.square(x, 0, 0, 24);
            x.door(d[0], 12, 13, 1);
            x.find();
            x.build(0);
            Checks.due(1, x.cell(d[1], d[2], 1));
            for (int corner = 0; corner < 4; corner++) {
                int cornerX = corner % 2 * 23;
                int cornerY = corner / 2 * 23;
                Checks.due(1 + Math.abs(cornerX - d[1]) + Math.abs(cornerY - d[2]), x.cell(cornerX, cornerY, 1));
            }
        }
        // A line in the outside beside the wall changes nothing; a door in a wall between two rooms makes none 1.
        TowerHouse y = new TowerHouse();
        PlanTest.square(y, 2, 2, 4);
        y.line(4, 2, 4, 6);
        y.door(4, 0, 4, 1);
        y.door(2, 3, 4, 1);
        y.find();
        y.build(0);
        Checks.due(1, y.cell(2, 5, 1));
        Checks.due(2, y.cell(2, 4, 1));
        Checks.due(3, y.cell(4, 5, 1));
        Checks.due(6, y.cell(4, 2, 1));
        // Shut in by another room, but open to it.
        Checks.due(4, y.cell(2, 2, 1));
    }

    private static void leastNumbers() {
        // Two doors: each cell has the number of the nearer one.
        TowerHouse x = new TowerHouse();
        x.line(2, 2, 12, 2);
        x.line(2, 3, 12, 3);
        x.line(2, 2, 2, 3);
        x.line(12, 2, 12, 3);
        x.door(2, 0, 1, 1);
        x.door(0, 8, 9, 1);
        x.find();
        x.build(0);
        int[] due = {1, 2, 3, 4, 5, 4, 3, 2, 1, 2};
        for (int k = 0; k < 10; k++) {
            Checks.due(due[k], x.cell(2 + k, 2, 1));
        }
        x.fire(4, 2);
        x.pass(30);
        for (int k = 0; k < 10; k++) {
            Checks.due(due[k], x.cell(2 + k, 2, 1));
        }
        // Round a line that stands in the way.
        TowerHouse y = new TowerHouse();
        PlanTest.square(y, 2, 2, 4);
        y.line(4, 2, 4, 5);
        y.door(2, 0, 1, 1);
        y.find();
        y.build(0);
        Checks.due(2, y.cell(3, 2, 1));
        Checks.due(5, y.cell(3, 5, 1));
        Checks.due(6, y.cell(4, 5, 1));
        Checks.due(9, y.cell(4, 2, 1));
        Checks.due(10, y.cell(5, 2, 1));
    }

    private static void personsInCells() {
        TowerHouse x = Houses.one(3, 1);
        comeIn(x, 0, 1, 1, 1);
        Checks.due(3, x.cell(2, 2, 2));
        Checks.due(0, x.cell(3, 2, 2));
        Checks.due(0, x.cell(2, 1, 2));
        x.ask(0, 0, 1);
        Checks.due(2, x.cell(2, 2, 2));
        // Those in the outside are in no cell.
        for (int k = 0; k < 24; k++) {
            Checks.due(0, x.cell(k, 1, 2));
        }
        x.fire(2, 2);
        Checks.due(2, x.cell(2, 2, 2));
        x.pass(1);
        Checks.due(0, x.cell(2, 2, 2));
        Checks.due(0, x.told(1));
        Checks.due(2, x.inside(0));
    }

    private static void passBounds() {
        TowerHouse x = Houses.one(1, 1);
        int[] wrong = {0, -1, 61, LEAST, GREATEST};
        for (int v : wrong) {
            Checks.argument(() -> x.pass(v));
        }
        Checks.due(1, x.pass(1));
        for (int k = 1; k < 100; k++) {
            Checks.due(1 + 60 * k, x.pass(60));
        }
        Checks.due(5941, x.told(8));
        Checks.state(() -> x.pass(60));
        Checks.due(5941, x.told(8));
        Checks.due(5999, x.pass(58));
        Checks.state(() -> x.pass(2));
        Checks.due(6000, x.pass(1));
        Checks.state(() -> x.pass(1));
        for (int v : wrong) {
            Checks.argument(() -> x.pass(v));
        }
        Checks.due(6000, x.told(8));
    }

    private static void caught() {
        TowerHouse x = Houses.one(3, 1);
        x.fire(2, 2);
        comeIn(x, 0, 5, 5);
        // In smoke, but caught just in a second; who goes before it is not.
        Checks.due(2, x.told(1));
        Checks.due(0, x.ask(1, 0, 1));
        x.pass(1);
        Checks.row(Checks.of(0, 2, 2, 1, 0, 0), Facts.where(x, 0));
        Checks.row(Checks.of(1, -1, -1, -1, 0, 0), Facts.where(x, 1));
        // It stays so, and does not leave; the second in which it was caught stays, too.
        Houses.leave(x, 1);
        x.pass(30);
        Checks.row(Checks.of(0, 2, 2, 1, 0, 0), Facts.where(x, 0));
        // Smoke that comes in a second catches in it.
        TowerHouse y = Houses.one(3, 1);
        comeIn(y, 0, 5);
        y.fire(3, 2);
        y.pass(9);
        Checks.due(-1, y.where(0, 3));
        y.pass(1);
        Checks.due(10, y.where(0, 3));
    }

    private static void paces() {
        // Came in in second 2 with paces 1 to 5: with persons leaving since second 1 they go in 3 to 7.
        TowerHouse x = Houses.one(3, 1);
        x.right(0, 0, 0, 1439, 0);
        Houses.leave(x, 1);
        x.pass(2);
        for (int k = 0; k < 5; k++) {
            x.person(0, 1 + k);
            x.card(k, 9);
            Checks.due(0, x.ask(k, 0, 0));
        }
        for (int second = 3; second < 8; second++) {
            x.pass(1);
            for (int k = 0; k < 5; k++) {
                Checks.due(k + 3 <= second ? 1 : 0, x.where(k, 0));
            }
            Checks.row(Checks.of(1, -1, -1, -1, 1, second), Facts.where(x, second - 3));
        }
        // A step each PACE seconds: from the far end of a row of four.
        TowerHouse y = new TowerHouse();
        y.line(2, 2, 6, 2);
        y.line(2, 3, 6, 3);
        y.line(2, 2, 2, 3);
        y.line(6, 2, 6, 3);
        y.door(2, 0, 1, 1);
        y.door(3, 0, 1, 1);
        y.find();
        y.build(0);
        y.right(0, 0, 0, 1439, 0);
        y.person(0, 2);
        y.card(0, 9);
        Checks.due(0, y.ask(0, 0, 0));
        y.pass(30);
        Houses.leave(y, 1);
        y.pass(1);
        // It was in its cell long enough: it goes out at once, to the left.
        Checks.row(Checks.of(1, -1, -1, -1, 1, 31), Facts.where(y, 0));
    }

    /** A row of five cells from (2, 2) to (6, 2) with a way out on the left, and a room to the right of it. */
    private static TowerHouse corridor(int rate) {
        TowerHouse x = new TowerHouse();
        x.line(2, 2, 9, 2);
        x.line(2, 3, 9, 3);
        x.line(2, 2, 2, 3);
        x.line(7, 2, 7, 3);
        x.line(9, 2, 9, 3);
        x.door(2, 0, 1, rate);
        x.door(3, 0, 1, 5);
        Checks.due(2, x.find());
        x.build(0);
        x.right(0, 0, 0, 1439, 0);
        return x;
    }

    private static void turns() {
        // Portals: 0 to the outside, 1 between the rooms. Person 0 is far from the way out, 1 is near: both want to go out in
        // one second, and the door lets one through: 1 goes first.
        TowerHouse x = corridor(1);
        for (int k = 0; k < 3; k++) {
            x.person(0, 1);
            x.card(k, 9);
            Checks.due(0, x.ask(k, 0, 0));
        }
        x.off(1, true);
        Checks.due(0, x.ask(0, 1, 0));
        x.off(1, false);
        Checks.row(Checks.of(0, 6, 2, -1, 0, 0), Facts.where(x, 0));
        Checks.due(5, x.cell(6, 2, 1));
        Houses.leave(x, 2);
        // Person 0 makes a step to the left in each second, from cell to cell.
        for (int k = 1; k < 5; k++) {
            x.pass(1);
            Checks.row(Checks.of(0, 6 - k, 2, -1, k, k), Facts.where(x, 0));
        }
        // 1 was out in the first second, 2 in the second one: of alike cells by their own numbers.
        Checks.due(1, x.where(1, 5));
        Checks.due(2, x.where(2, 5));
        x.pass(1);
        Checks.row(Checks.of(2, -1, -1, -1, 5, 5), Facts.where(x, 0));
        doorBetween();
        // Person 0 stays in the outside; 1, 2 and 3 are at 5, 3 and 1, and each goes once in each second.
        TowerHouse y = corridor(5);
        for (int k = 0; k < 4; k++) {
            y.person(0, 1);
            y.card(k, 9);
        }
        Houses.leave(y, 2);
        for (int k = 1; k < 4; k++) {
            y.off(1, true);
            Checks.due(0, y.ask(k, 1, 0));
            y.off(1, false);
        }
        y.pass(1);
        for (int k = 1; k < 4; k++) {
            Checks.row(Checks.of(0, 5, 2, -1, 1, 1), Facts.where(y, k));
        }
        Checks.row(Checks.of(2, -1, -1, -1, 0, 0), Facts.where(y, 0));
        y.off(1, true);
        y.ask(1, 1, 0);
        y.off(1, false);
        y.pass(1);
        Checks.row(Checks.of(0, 5, 2, -1, 2, 2), Facts.where(y, 1));
        y.off(1, true);
        y.ask(1, 1, 0);
        y.ask(2, 1, 0);
        y.off(1, false);
        y.pass(1);
        Checks.row(Checks.of(0, 5, 2, -1, 3, 3), Facts.where(y, 1));
        Checks.row(Checks.of(0, 5, 2, -1, 3, 3), Facts.where(y, 2));
        Checks.row(Checks.of(0, 3, 2, -1, 3, 3), Facts.where(y, 3));
        y.off(1, true);
        y.ask(1, 1, 0);
        y.off(1, false);
        // Now they are at 5, 4 and 2.
        y.pass(1);
        Checks.row(Checks.of(0, 5, 2, -1, 4, 4), Facts.where(y, 1));
        Checks.row(Checks.of(0, 4, 2, -1, 4, 4), Facts.where(y, 2));
        Checks.row(Checks.of(0, 2, 2, -1, 4, 4), Facts.where(y, 3));
        Checks.due(0, y.where(0, 4));
    }

    /** At a wide door of rate 1 between two rooms person 1 is nearer to the way out than person 0 is. */
    private static void doorBetween() {
        TowerHouse x = new TowerHouse();
        x.line(2, 2, 8, 2);
        x.line(2, 4, 8, 4);
        for (int k = 1; k < 5; k++) {
            x.line(2 * k, 2, 2 * k, 4);
        }
        x.door(2, 0, 1, 5);
        x.door(3, 0, 2, 1);
        x.door(4, 1, 2, 1);
        Checks.due(3, x.find());
        Checks.due(3, x.build(0));
        x.right(0, 0, 0, 1439, 0);
        for (int k = 0; k < 2; k++) {
            x.person(0, 1);
            x.card(k, 9);
            x.off(2 - k, true);
            Checks.due(0, x.ask(k, 2 - k, 1));
        }
        x.off(2, false);
        Houses.leave(x, 3);
        Checks.row(Checks.of(5, 4, 3), Checks.of(x.cell(5, 3, 1), x.cell(4, 3, 1), x.cell(4, 2, 1)));
        x.pass(1);
        x.off(1, false);
        Checks.row(Checks.of(1, 4, 3, -1, 1, 1), Facts.where(x, 0));
        Checks.row(Checks.of(1, 4, 2, -1, 0, 1), Facts.where(x, 1));
        // Person 1 goes through the door, so person 0, who would go through it, too, takes the way below.
        x.pass(1);
        Checks.row(Checks.of(0, 3, 2, -1, 1, 2), Facts.where(x, 1));
        Checks.row(Checks.of(1, 4, 2, -1, 2, 2), Facts.where(x, 0));
    }

    private static void withoutNumber() {
        // One shut in has no number, is no hindrance, and never goes; its cell's number is NONE.
        TowerHouse x = new TowerHouse();
        PlanTest.square(x, 2, 2, 2);
        x.line(4, 2, 6, 2);
        x.line(4, 4, 6, 4);
        x.line(6, 2, 6, 4);
        x.door(3, 0, 1, 1);
        x.find();
        Checks.due(1, x.build(0));
        x.person(0, 1);
        x.card(0, 9);
        x.right(0, 0, 0, 1439, 0);
        x.off(0, true);
        x.ask(0, 0, 0);
        x.off(0, false);
        Checks.row(Checks.of(0, 3, 2, -1, 0, 0), Facts.where(x, 0));
        Checks.due(-1, x.cell(3, 2, 1));
        Houses.leave(x, 2);
        x.pass(60);
        Checks.row(Checks.of(0, 3, 2, -1, 0, 0), Facts.where(x, 0));
        Checks.due(1, x.told(1));
    }

    private static void directions() {
        // From the middle of a cross of doors: out to the right, and with smoke there to the left, then up, then down.
        int[][] outs = {{11, 10}, {9, 10}, {10, 11}, {10, 9}};
        for (int smoky = 0; smoky < 5; smoky++) {
            TowerHouse x = new TowerHouse();
            PlanTest.square(x, 10, 10, 1);
            for (int k = 0; k < 4; k++) {
                x.door(k, 0, 1, 1);
            }
            x.find();
            Checks.due(4, x.build(0));
            comeIn(x, 0, 1, 1);
            for (int k = 0; k < smoky; k++) {
                x.fire(outs[k][0], outs[k][1]);
            }
            Houses.leave(x, 1);
            x.pass(1);
            // Each door lets one through in a second: two persons take the first two ways that are left.
            Checks.due(smoky < 4 ? 1 : 0, x.where(0, 0));
            Checks.due(smoky < 3 ? 1 : 0, x.where(1, 0));
            x.pass(1);
            Checks.due(smoky < 4 ? 1 : 0, x.where(1, 0));
        }
        // Inside, too: of two cells with the same number the one to the right, to the left, above is taken first.
        TowerHouse y = new TowerHouse();
        PlanTest.square(y, 2, 2, 2);
        y.door(0, 1, 2, 1);
        y.door(2, 1, 2, 1);
        y.door(3, 1, 2, 1);
        y.door(1, 0, 1, 1);
        y.find();
        y.build(0);
        // All but (2, 2) have a way out of their own; from there the one to the right is the first.
        Checks.due(2, y.cell(2, 2, 1));
        Checks.due(1, y.cell(3, 2, 1));
        Checks.due(1, y.cell(2, 3, 1));
    }

    private static void smokeInTheWay() {
        TowerHouse x = corridor(5);
        x.person(0, 1);
        x.card(0, 9);
        x.off(1, true);
        x.ask(0, 1, 0);
        x.off(1, false);
        Houses.leave(x, 2);
        x.fire(4, 2);
        x.pass(1);
        Checks.row(Checks.of(0, 5, 2, -1, 1, 1), Facts.where(x, 0));
        x.pass(5);
        // There is no other cell with a lesser number.
        Checks.row(Checks.of(0, 5, 2, -1, 1, 1), Facts.where(x, 0));
        x.pass(4);
        Checks.due(10, x.where(0, 3));
        // Smoke in the outside's cell is in the way, too; beyond the cells there is none.
        TowerHouse y = corridor(5);
        comeIn(y, 0, 1);
        y.fire(1, 2);
        Houses.leave(y, 2);
        y.pass(9);
        Checks.due(0, y.where(0, 4));
        TowerHouse z = new TowerHouse();
        z.line(0, 0, 3, 0);
        z.line(0, 1, 3, 1);
        z.line(0, 0, 0, 1);
        z.line(3, 0, 3, 1);
        z.door(2, 0, 1, 1);
        z.find();
        z.build(0);
        comeIn(z, 0, 1);
        z.fire(0, 1);
        Houses.leave(z, 1);
        z.pass(1);
        Checks.row(Checks.of(1, -1, -1, -1, 1, 1), Facts.where(z, 0));
    }

    private static void rates() {
        for (int rate = 1; rate <= 5; rate++) {
            TowerHouse x = corridor(rate);
            for (int k = 0; k < 12; k++) {
                x.person(0, 1);
                x.card(k, 9);
                Checks.due(0, x.ask(k, 0, 0));
            }
            Houses.leave(x, 2);
            for (int second = 1; second < 4; second++) {
                x.pass(1);
                Checks.due(Math.max(0, 12 - rate * second), x.told(1));
            }
            Checks.due(1, x.where(rate - 1, 5));
            Checks.due(2, x.where(rate, 5));
        }
        // A wide door is one door: two cells of it let through no more than its rate together.
        TowerHouse y = new TowerHouse();
        PlanTest.square(y, 2, 2, 2);
        y.door(2, 0, 2, 1);
        y.door(0, 1, 2, 5);
        y.find();
        Checks.due(2, y.build(0));
        // Portal 0 is that of line 0, into (3, 2); portal 1 that of line 2, into (2, 2).
        y.right(0, 0, 0, 1439, 0);
        for (int k = 0; k < 4; k++) {
            y.person(0, 1);
            y.card(k, 9);
            Checks.due(0, y.ask(k, 1, 0));
        }
        Houses.leave(y, 1);
        for (int second = 1; second < 5; second++) {
            y.pass(1);
            Checks.due(4 - second, y.told(1));
        }
        // Those who come in by cards are not counted: in one second one goes in and another one out.
        TowerHouse z = corridor(1);
        comeIn(z, 0, 1, 1);
        Houses.leave(z, 2);
        z.pass(1);
        Checks.due(2, z.where(0, 0));
        Checks.due(0, z.ask(0, 0, 0));
        z.pass(1);
        Checks.due(1, z.told(1));
        // Both were in their cell for a second: the one with the lesser number went.
        Checks.due(2, z.where(0, 0));
        Checks.due(0, z.where(1, 0));
    }

    private static void severalDoors() {
        // At one place a door of rate 1 and one of rate 2, and a third of rate 1 that is not there.
        TowerHouse x = new TowerHouse();
        x.line(2, 2, 6, 2);
        x.line(2, 4, 6, 4);
        x.line(2, 2, 2, 4);
        x.line(6, 2, 6, 4);
        x.door(2, 0, 1, 1);
        x.door(2, 0, 2, 2);
        x.door(2, 1, 2, 1);
        x.find();
        Checks.due(3, x.build(0));
        x.right(0, 0, 0, 1439, 0);
        for (int k = 0; k < 6; k++) {
            x.person(0, 1);
            x.card(k, 9);
            Checks.due(0, x.ask(k, 0, 0));
        }
        Houses.leave(x, 1);
        x.pass(1);
        Checks.due(3, x.told(1));
        x.pass(1);
        Checks.due(0, x.told(1));
    }

    private static void second() {
        // The acts go before the program points are told, the program reckons behind that, the line behind that.
        TowerHouse x = Houses.one(4, 1);
        x.sentence(0, 0, 1, 0, 1);
        x.sentence(1, 0, 5, 0, 0);
        x.sentence(2, 0, 0, 0, 0);
        x.sentence(1, 4, 2, 0, 0);
        x.sentence(2, 0, 4, 0, 0);
        x.sentence(1, 5, 4, 0, 0);
        x.sentence(2, 0, 5, 0, 0);
        x.matrix();
        for (int p = 0; p < 4; p++) {
            x.block(0);
            x.numbers(p, p, 0);
        }
        comeIn(x, 0, 1, 1);
        x.call(1, 2);
        for (int k = 3; k < 6; k++) {
            x.fire(k, 2);
        }
        x.pass(9);
        Checks.row(Checks.of(2, 0, 3, 1), Checks.of(x.out(0, 0), x.out(1, 0), x.out(2, 0), x.out(3, 0)));
        x.fire(0, 20);
        x.call(2, 3);
        x.fire(2, 2);
        x.pass(1);
        // Second 10: smoke spreads (through the door, too, and in the outside) and is counted, 4 cells of the room are 40: no act.
        Checks.due(0, x.told(2));
        Checks.row(Checks.of(2, 0, 9, 2), Checks.of(x.out(0, 0), x.out(1, 0), x.out(2, 0), x.out(3, 0)));
        // Both persons were counted as free, and caught behind that.
        Checks.due(0, x.told(1));
        Checks.due(10, x.where(0, 3));
        Checks.due(2, x.pointAt(0));
        // The values of signals are seen in the next second's acts just for switches; a detector's is made anew.
        x.signal(0, 100);
        x.pass(1);
        Checks.due(0, x.told(2));
        // Smoke that spreads in second 10 is in five cells then: the detector has 50 in it, and the act is done in it.
        TowerHouse w = Houses.one(5, 5);
        w.sentence(0, 0, 1, 0, 1);
        w.sentence(1, 0, 5, 0, 0);
        w.sentence(2, 0, 0, 0, 0);
        w.matrix();
        w.fire(4, 4);
        w.pass(9);
        Checks.due(0, w.act(0, 0));
        w.pass(1);
        Checks.row(Checks.of(10, 0, 1), Facts.event(w, 0));
        Checks.due(1, w.pointAt(1));
        Checks.due(5, w.pointAt(2));
        // A switch that a block drives: its output of the second before.
        TowerHouse y = Houses.one(4, 1);
        y.sentence(0, 0, 1, 1, 1);
        y.sentence(1, 4, 2, 0, 0);
        y.sentence(2, 0, 4, 0, 0);
        y.matrix();
        y.block(1);
        y.numbers(0, 50, 0);
        y.bind(0, 0);
        y.block(0);
        y.numbers(1, 1, 0);
        y.pass(1);
        Checks.due(50, y.out(0, 0));
        Checks.due(0, y.told(2));
        Checks.due(0, y.out(1, 0));
        y.pass(1);
        Checks.due(1, y.told(2));
        Checks.due(1, y.out(1, 0));
        // Its telegram is begun in the first bit time of that second, 31: T is 145, in second 5.
        Checks.due(1, y.station(7, 1));
        y.pass(2);
        Checks.due(1, y.station(7, 1));
        y.pass(1);
        Checks.due(1, y.station(7, 2));
        Checks.due(1, y.heard(0));
        // Persons leave in the second in which the act is done, and their going is counted in the next one.
        TowerHouse z = corridor(5);
        comeIn(z, 0, 1);
        z.block(0);
        Houses.leave(z, 2);
        z.pass(1);
        Checks.due(2, z.where(0, 0));
        Checks.due(1, z.pointAt(0));
        Checks.due(1, z.out(0, 0));
        z.pass(1);
        Checks.due(0, z.pointAt(0));
        Checks.due(0, z.out(0, 0));
    }

    private static void toldNumbers() {
        TowerHouse x = Houses.four();
        int[] noWhat = {-1, 9, LEAST, GREATEST};
        for (int v : noWhat) {
            Checks.argument(() -> x.told(v));
        }
        Checks.due(6, x.told(0));
        for (int what = 1; what < 9; what++) {
            Checks.due(0, x.told(what));
        }
        TowerHouse y = Houses.fourPlanned();
        for (int what = 0; what < 9; what++) {
            int w = what;
            Checks.state(() -> y.told(w));
        }
        for (int v : noWhat) {
            Checks.argument(() -> y.told(v));
        }
    }
}
