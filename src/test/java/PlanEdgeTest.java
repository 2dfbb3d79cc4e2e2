/** The edges that promises 1 to 6 name, a test for each of their sentences. */
final class PlanEdgeTest {
    private static final int LEAST = Integer.MIN_VALUE;
    private static final int GREATEST = Integer.MAX_VALUE;

    private PlanEdgeTest() {
    }

    static void all() {
        Checks.test("P1 edge: 'An empty plan'", PlanEdgeTest::emptyPlan);
        Checks.test("P1 edge: 'The house is PLANNED (at first)'", PlanEdgeTest::plannedAtFirst);
        Checks.test("P2 edge: 'x and y of points are 0 .. 24'", PlanEdgeTest::pointsOfLines);
        Checks.test("P2 edge: line, 'also if both ends are one, or the line stands askew'", PlanEdgeTest::badEnds);
        Checks.test("P2 edge: line, 'NONE, changing nothing, if it would have more than a point in common'", PlanEdgeTest::alongAnother);
        Checks.test("P2 edge: line, 'illegal state: also if there are 20'", PlanEdgeTest::twentyLines);
        Checks.test("P2 edge: move, 'also if it would come out of 0 .. 24'", PlanEdgeTest::movedOut);
        Checks.test("P2 edge: move, 'not, if it would have more than a point in common'", PlanEdgeTest::movedAlong);
        Checks.test("P2 edge: move, 'Its doors move with it'", PlanEdgeTest::movedDoors);
        Checks.test("P2 edge: door, 'from is not below to, or they are not 0 .. the line's length'", PlanEdgeTest::doorParts);
        Checks.test("P2 edge: door, 'the rate is out of its bounds'", PlanEdgeTest::doorRates);
        Checks.test("P2 edge: door, 'from one distance from its low end'", PlanEdgeTest::lowEnds);
        Checks.test("P2 edge: door, 'illegal state: also if it has 6'", PlanEdgeTest::sixDoors);
        Checks.test("P3 edge: find, 'illegal state: also if there were 60 findings'", PlanEdgeTest::sixtyFindings);
        Checks.test("P3 edge: find, from no space to as many as can be", PlanEdgeTest::fewAndManySpaces);
        Checks.test("P3 edge: find, spaces that touch in a point, open lines, the whole plan", PlanEdgeTest::oddSpaces);
        Checks.test("P3 edge: find, 'numbers by the least points (by x, then y) of their edges'", PlanEdgeTest::spaceNumbers);
        Checks.test("P3 edge: count, 'POINTS are lines' ends, and where lines meet'", PlanEdgeTest::pointsAndPieces);
        Checks.test("P3 edge: count, 'sides of the outside'", PlanEdgeTest::outsideSides);
        Checks.test("P3 edge: count, 'a line came or was moved since, or there was none'", PlanEdgeTest::oldFindings);
        Checks.test("P3 edge: 'Without one there is no space, and no outside either'", PlanEdgeTest::noFinding);
        Checks.test("P3 edge: sides, '0 for a ring that it has not', 'also if ring is below 0'", PlanEdgeTest::noSuchRing);
        Checks.test("P3 edge: 'Of the latest finding': nothing of an earlier one", PlanEdgeTest::latestFinding);
        Checks.test("P3 edge: 'Of the latest finding': fewer rings than before", PlanEdgeTest::fewerRings);
        Checks.test("P2 edge: 20 lines, of 6 doors each, in all that looks at them", PlanEdgeTest::allLinesAndDoors);
    }

    private static void emptyPlan() {
        TowerHouse x = new TowerHouse();
        Checks.argument(() -> x.move(0, 0, 0));
        Checks.argument(() -> x.door(0, 0, 1, 1));
        Checks.due(-1, x.rules());
        Checks.due(0, x.check(0));
        Checks.argument(() -> x.rule(0, 0));
        Checks.argument(() -> x.trim(1));
        Checks.due(TowerHouse.UNKNOWN, x.fact('a', 1));
        Checks.due(0, x.find());
        Checks.due(0, x.count(0) + x.count(1) + x.count(2) + x.count(3));
        Checks.due(-1, x.at(0, 0));
        Checks.due(-1, x.at(23, 23));
        // Two objects have nothing in common.
        Checks.due(0, x.line(0, 0, 1, 0));
        Checks.due(0, new TowerHouse().line(0, 0, 1, 0));
    }

    private static void plannedAtFirst() {
        TowerHouse x = new TowerHouse();
        Checks.state(() -> x.told(0));
        Checks.state(() -> x.pass(60));
        Checks.state(() -> x.person(9, 5));
        Checks.state(() -> x.matrix());
        Checks.state(() -> x.order());
        Checks.state(() -> x.give());
        Checks.state(() -> x.fire(23, 23));
        Checks.argument(() -> x.signal(0, 0));
        Checks.due(0, x.line(0, 0, 1, 0));
    }

    private static void pointsOfLines() {
        TowerHouse x = new TowerHouse();
        Checks.due(0, x.line(0, 0, 24, 0));
        Checks.due(1, x.line(24, 24, 0, 24));
        Checks.due(2, x.line(0, 0, 0, 24));
        Checks.due(3, x.line(24, 24, 24, 0));
        int[] beyond = {-1, 25, LEAST, GREATEST};
        for (int v : beyond) {
            Checks.argument(() -> x.line(v, 5, 5, 5));
            Checks.argument(() -> x.line(5, v, 5, 5));
            Checks.argument(() -> x.line(5, 5, v, 5));
            Checks.argument(() -> x.line(5, 5, 5, v));
            Checks.argument(() -> x.line(v, 5, v, 6));
            Checks.argument(() -> x.line(5, v, 6, v));
        }
        Checks.due(4, x.line(23, 23, 23, 24));
    }

    private static void badEnds() {
        TowerHouse x = new TowerHouse();
        Checks.argument(() -> x.line(0, 0, 0, 0));
        Checks.argument(() -> x.line(24, 24, 24, 24));
        Checks.argument(() -> x.line(3, 4, 4, 3));
        Checks.argument(() -> x.line(0, 0, 24, 24));
        Checks.argument(() -> x.line(0, 1, 24, 0));
        Checks.due(0, x.line(0, 1, 24, 1));
        Checks.due(1, x.line(5, 5, 5, 4));
    }

    private static void alongAnother() {
        TowerHouse x = new TowerHouse();
        x.line(6, 6, 12, 6);
        x.line(6, 8, 6, 14);
        x.find();
        int[][] level = {{6, 12}, {12, 6}, {6, 7}, {11, 12}, {5, 7}, {11, 13}, {0, 24}, {8, 9}, {5, 12}, {6, 13}};
        for (int[] e : level) {
            Checks.due(-1, x.line(e[0], 6, e[1], 6));
            Checks.due(-1, x.line(6, e[0] + 2, 6, e[1] + (e[1] > 22 ? 0 : 2)));
        }
        // Nothing is changed by that: the finding is not old, and the next number is the next one.
        Checks.due(2, x.count(2));
        // One point in common, beside it, across it: all that may be.
        Checks.due(2, x.line(5, 6, 6, 6));
        Checks.state(() -> x.count(2));
        Checks.due(3, x.line(12, 6, 13, 6));
        Checks.due(4, x.line(6, 7, 12, 7));
        Checks.due(5, x.line(6, 7, 6, 8));
        Checks.due(6, x.line(6, 15, 6, 14));
        Checks.due(7, x.line(7, 8, 7, 14));
        Checks.due(8, x.line(9, 6, 9, 7));
        Checks.due(9, x.line(10, 5, 10, 9));
        Checks.due(10, x.line(6, 6, 6, 0));
        Checks.due(-1, x.line(6, 5, 6, 7));
    }

    private static void twentyLines() {
        TowerHouse x = new TowerHouse();
        for (int k = 0; k < 19; k++) {
            Checks.due(k, x.line(0, k, 24, k));
            // What is NONE is no line of those.
            Checks.due(-1, x.line(3, k, 4, k));
        }
        Checks.due(19, x.line(0, 19, 24, 19));
        x.find();
        Checks.state(() -> x.line(0, 20, 24, 20));
        Checks.state(() -> x.line(0, 19, 24, 19));
        Checks.argument(() -> x.line(0, 20, 24, 21));
        Checks.argument(() -> x.line(0, 20, 0, 20));
        Checks.argument(() -> x.line(0, 20, 25, 20));
        Checks.argument(() -> x.move(20, 0, 0));
        Checks.due(20, x.count(2));
    }

    private static void movedOut() {
        TowerHouse x = new TowerHouse();
        x.line(10, 12, 4, 12);
        Checks.argument(() -> x.move(0, -5, 0));
        Checks.argument(() -> x.move(0, 15, 0));
        Checks.argument(() -> x.move(0, 0, 13));
        Checks.argument(() -> x.move(0, 0, -13));
        int[] far = {LEAST, GREATEST, GREATEST - 3, LEAST + 24};
        for (int v : far) {
            Checks.argument(() -> x.move(0, v, 0));
            Checks.argument(() -> x.move(0, 0, v));
            Checks.argument(() -> x.move(0, v, v));
        }
        Checks.due(true, x.move(0, -4, 0));
        Checks.argument(() -> x.move(0, -1, 0));
        Checks.due(true, x.move(0, 18, 12));
        Checks.argument(() -> x.move(0, 1, 0));
        Checks.argument(() -> x.move(0, 0, 1));
        Checks.due(true, x.move(0, 0, -24));
        Checks.argument(() -> x.move(0, 0, -1));
        x.line(3, 5, 3, 2);
        Checks.argument(() -> x.move(1, 0, -3));
        Checks.argument(() -> x.move(1, 0, 20));
        Checks.argument(() -> x.move(1, -4, 0));
        Checks.argument(() -> x.move(1, 22, 0));
        Checks.due(true, x.move(1, 0, 19));
        Checks.due(true, x.move(1, 21, -21));
        int[] none = {-1, 2, LEAST, GREATEST};
        for (int v : none) {
            Checks.argument(() -> x.move(v, 0, 0));
        }
        // It is where it was told to be: its ends are (18, 0) and (24, 0), (24, 0) and (24, 3).
        Checks.due(-1, x.line(17, 0, 19, 0));
        Checks.due(-1, x.line(24, 2, 24, 4));
        Checks.due(2, x.line(17, 0, 18, 0));
        Checks.due(3, x.line(24, 3, 24, 4));
    }

    private static void movedAlong() {
        TowerHouse x = new TowerHouse();
        x.line(0, 0, 4, 0);
        x.line(4, 0, 8, 0);
        x.line(12, 0, 16, 0);
        x.line(2, 4, 2, 8);
        x.line(2, 10, 2, 14);
        x.find();
        Checks.due(false, x.move(0, 1, 0));
        Checks.due(false, x.move(2, -5, 0));
        Checks.due(false, x.move(3, 0, 3));
        // Refused, it stays where it was, and the finding is as it was.
        Checks.due(0, x.count(0));
        Checks.due(9, x.count(1));
        // It may come to lie on the place where it was itself, and may touch.
        Checks.due(true, x.move(1, 1, 0));
        Checks.state(() -> x.count(1));
        Checks.due(true, x.move(1, -1, 0));
        Checks.due(true, x.move(2, -4, 0));
        Checks.due(true, x.move(3, 0, 2));
        x.find();
        Checks.due(4 + 3, x.count(1));
        // A move by nothing is one.
        Checks.due(true, x.move(0, 0, 0));
        Checks.state(() -> x.count(1));
    }

    private static void movedDoors() {
        TowerHouse x = new TowerHouse();
        PlanTest.square(x, 4, 4, 4);
        x.door(2, 1, 2, 1);
        x.find();
        Checks.due(1, x.way(0, -1));
        Checks.due(true, x.move(2, -2, 0));
        Checks.due(0, x.find());
        x.move(0, -2, 0);
        x.move(1, -2, 0);
        x.line(6, 4, 8, 4);
        x.line(6, 8, 8, 8);
        Checks.due(1, x.find());
        Checks.due(1, x.way(0, -1));
        Checks.due(2, x.door(2, 0, 1, 1));
        x.build(0);
        Checks.due(2, x.portal(0, 2));
        Checks.due(1, x.portal(0, 4));
        Checks.due(5, x.portal(0, 5));
    }

    private static void doorParts() {
        TowerHouse x = new TowerHouse();
        x.line(3, 3, 8, 3);
        x.line(3, 4, 3, 5);
        Checks.due(1, x.door(0, 0, 1, 1));
        Checks.due(2, x.door(0, 4, 5, 1));
        Checks.due(3, x.door(0, 0, 5, 1));
        int[][] wrong = {{0, 0}, {5, 5}, {3, 2}, {-1, 1}, {-1, 5}, {0, 6}, {4, 6}, {5, 6}, {LEAST, 1}, {0, GREATEST}, {GREATEST, LEAST}};
        for (int[] w : wrong) {
            Checks.argument(() -> x.door(0, w[0], w[1], 1));
        }
        // The other one has the length 1.
        Checks.argument(() -> x.door(1, 0, 2, 1));
        Checks.argument(() -> x.door(1, 1, 2, 1));
        Checks.due(1, x.door(1, 0, 1, 1));
        int[] none = {-1, 2, LEAST, GREATEST};
        for (int v : none) {
            Checks.argument(() -> x.door(v, 0, 1, 1));
        }
    }

    private static void doorRates() {
        TowerHouse x = new TowerHouse();
        x.line(3, 3, 8, 3);
        int[] wrong = {0, 6, -1, LEAST, GREATEST};
        for (int v : wrong) {
            Checks.argument(() -> x.door(0, 0, 1, v));
        }
        Checks.due(1, x.door(0, 0, 1, 1));
        Checks.due(2, x.door(0, 0, 1, 5));
    }

    private static void lowEnds() {
        // Told from the high end, a line's low end is still that with the lesser x or y.
        TowerHouse x = new TowerHouse();
        x.line(9, 2, 3, 2);
        x.line(9, 7, 9, 2);
        x.line(3, 7, 3, 2);
        x.line(9, 7, 3, 7);
        x.door(0, 0, 1, 1);
        x.door(1, 0, 1, 1);
        x.find();
        x.build(0);
        Checks.due(3, x.portal(0, 4));
        Checks.due(2, x.portal(0, 5));
        Checks.due(8, x.portal(1, 4));
        Checks.due(2, x.portal(1, 5));
        // A is to the left of a piece seen from its low end: above the one, to the left of the other.
        Checks.due(0, x.portal(0, 0));
        Checks.due(0, x.portal(1, 0));
    }

    private static void sixDoors() {
        TowerHouse x = new TowerHouse();
        x.line(3, 3, 8, 3);
        x.line(3, 4, 8, 4);
        for (int k = 1; k <= 6; k++) {
            Checks.due(k, x.door(0, 0, 5, 1));
        }
        Checks.state(() -> x.door(0, 0, 5, 1));
        Checks.argument(() -> x.door(0, 0, 6, 1));
        Checks.argument(() -> x.door(0, 0, 5, 6));
        Checks.due(1, x.door(1, 0, 5, 1));
        x.move(0, 1, 0);
        Checks.state(() -> x.door(0, 0, 1, 5));
    }

    private static void sixtyFindings() {
        TowerHouse x = new TowerHouse();
        PlanTest.square(x, 0, 0, 3);
        for (int k = 0; k < 59; k++) {
            Checks.due(1, x.find());
        }
        x.line(1, 0, 1, 3);
        Checks.due(2, x.find());
        Checks.state(x::find);
        Checks.due(2, x.count(0));
        Checks.due(0, x.name(1, 5));
        x.line(2, 0, 2, 3);
        Checks.state(x::find);
        Checks.state(() -> x.count(0));
        // The last finding is old now and no other one can be made: the house is never built.
        Checks.state(() -> x.build(0));
    }

    private static void fewAndManySpaces() {
        TowerHouse x = new TowerHouse();
        Checks.due(0, x.find());
        for (int k = 0; k < 10; k++) {
            x.line(2 * k, 0, 2 * k, 18);
        }
        Checks.due(0, x.find());
        Checks.due(20, x.count(1));
        Checks.due(10, x.count(2));
        Checks.due(20, x.count(3));
        for (int k = 0; k < 10; k++) {
            x.line(0, 2 * k, 18, 2 * k);
        }
        Checks.due(81, x.find());
        Checks.due(100, x.count(1));
        Checks.due(180, x.count(2));
        Checks.due(36, x.count(3));
        Checks.due(80, x.at(17, 17));
        Checks.due(0, x.at(0, 0));
        Checks.due(9, x.at(2, 1));
        Checks.due(-1, x.at(18, 17));
        Checks.due(1, x.size(80, 2));
        Checks.due(8, x.size(80, 1));
        Checks.argument(() -> x.size(81, 0));
        Checks.state(() -> x.build(0));
        // As many pieces as there can be: every line is crossed, and goes on behind the last one.
        TowerHouse y = new TowerHouse();
        for (int k = 0; k < 10; k++) {
            y.line(2 * k + 1, 0, 2 * k + 1, 20);
            y.line(0, 2 * k + 1, 20, 2 * k + 1);
        }
        Checks.due(81, y.find());
        Checks.due(140, y.count(1));
        Checks.due(220, y.count(2));
        Checks.due(36 + 80, y.count(3));
        for (int space = 0; space < 81; space++) {
            Checks.due(4, y.sides(space, 0));
            Checks.due(4, y.size(space, 0));
        }
        Checks.due(19, y.side(80, 0, 2, 0));
    }

    private static void oddSpaces() {
        // Two squares with a corner in common are two spaces, and no way leads through the corner.
        TowerHouse x = new TowerHouse();
        x.line(0, 4, 8, 4);
        x.line(4, 0, 4, 8);
        x.line(0, 0, 4, 0);
        x.line(0, 0, 0, 4);
        x.line(4, 8, 8, 8);
        x.line(8, 4, 8, 8);
        Checks.due(2, x.find());
        Checks.due(0, x.at(3, 3));
        Checks.due(1, x.at(4, 4));
        Checks.due(0, x.between(0, 1));
        Checks.due(7, x.count(1));
        Checks.due(8, x.count(2));
        // The outside goes round both in one ring.
        Checks.due(8, x.count(3));
        // A gap of one is a gap: nothing is shut off.
        TowerHouse y = new TowerHouse();
        y.line(0, 0, 3, 0);
        y.line(0, 4, 4, 4);
        y.line(0, 0, 0, 4);
        y.line(4, 0, 4, 4);
        Checks.due(0, y.find());
        Checks.due(-1, y.at(2, 2));
        Checks.due(true, y.move(0, 1, 0));
        Checks.due(0, y.find());
        // The whole plan is a space; all its cells are in it.
        TowerHouse z = new TowerHouse();
        PlanTest.square(z, 0, 0, 24);
        Checks.due(1, z.find());
        Checks.due(576, z.size(0, 0));
        Checks.due(96, z.size(0, 1));
        Checks.due(0, z.at(23, 23));
        Checks.due(96, z.between(0, -1));
        Checks.due(4, z.count(3));
        // The least space that there can be, in each corner.
        int[][] corners = {{0, 0}, {0, 23}, {23, 0}, {23, 23}};
        for (int[] c : corners) {
            TowerHouse w = new TowerHouse();
            PlanTest.square(w, c[0], c[1], 1);
            Checks.due(1, w.find());
            Checks.due(1, w.size(0, 0));
            Checks.due(4, w.size(0, 1));
            Checks.due(0, w.at(c[0], c[1]));
            Checks.due(-1, w.at(23 - c[0], 23 - c[1]));
            Checks.due(4, w.count(3));
        }
    }

    private static void spaceNumbers() {
        TowerHouse x = new TowerHouse();
        PlanTest.square(x, 5, 5, 2);
        PlanTest.square(x, 5, 1, 2);
        PlanTest.square(x, 1, 20, 2);
        // This one's least point has a lesser x than its corner near to the others has.
        x.line(2, 10, 9, 10);
        x.line(2, 10, 2, 12);
        x.line(2, 12, 9, 12);
        x.line(9, 10, 9, 12);
        Checks.due(4, x.find());
        Checks.due(0, x.at(1, 20));
        Checks.due(1, x.at(8, 11));
        Checks.due(2, x.at(5, 1));
        Checks.due(3, x.at(5, 5));
        // One inside another: the one round it has the lesser least point.
        TowerHouse y = new TowerHouse();
        PlanTest.square(y, 6, 6, 3);
        PlanTest.square(y, 4, 4, 9);
        y.find();
        Checks.due(0, y.at(4, 4));
        Checks.due(1, y.at(6, 6));
    }

    private static void pointsAndPieces() {
        TowerHouse x = new TowerHouse();
        x.line(4, 4, 8, 4);
        x.find();
        Checks.due(2, x.count(1));
        Checks.due(1, x.count(2));
        // End to end: the point in common is one point.
        x.line(8, 4, 12, 4);
        x.find();
        Checks.due(3, x.count(1));
        Checks.due(2, x.count(2));
        // A crossing, a line that ends on another one, a corner, and one that just passes by.
        x.line(6, 2, 6, 6);
        x.find();
        Checks.due(6, x.count(1));
        Checks.due(5, x.count(2));
        x.line(10, 4, 10, 8);
        x.find();
        Checks.due(8, x.count(1));
        Checks.due(7, x.count(2));
        x.line(12, 4, 12, 0);
        x.find();
        Checks.due(9, x.count(1));
        Checks.due(8, x.count(2));
        x.line(13, 0, 13, 9);
        x.find();
        Checks.due(11, x.count(1));
        Checks.due(9, x.count(2));
        Checks.due(18, x.count(3));
        // At the edges of the plan.
        TowerHouse y = new TowerHouse();
        y.line(0, 0, 24, 0);
        y.line(24, 0, 24, 24);
        y.line(0, 24, 24, 24);
        y.line(12, 0, 12, 24);
        y.find();
        Checks.due(6, y.count(1));
        Checks.due(6, y.count(2));
    }

    private static void outsideSides() {
        TowerHouse x = new TowerHouse();
        PlanTest.square(x, 0, 0, 4);
        PlanTest.square(x, 10, 10, 4);
        PlanTest.square(x, 1, 1, 1);
        x.line(20, 0, 22, 0);
        x.find();
        // Four round each of the two, two along the line; what stands inside is none of the outside's.
        Checks.due(10, x.count(3));
        Checks.due(2 * x.count(2), x.count(3) + x.sides(0, 0) + x.sides(0, 1) + x.sides(1, 0) + x.sides(2, 0));
    }

    private static void oldFindings() {
        TowerHouse x = new TowerHouse();
        Checks.state(() -> x.count(0));
        Checks.argument(() -> x.count(-1));
        Checks.argument(() -> x.count(4));
        PlanTest.square(x, 0, 0, 4);
        Checks.state(() -> x.count(0));
        x.find();
        Checks.due(1, x.count(0));
        // A door, a name, what is refused: these make no finding old.
        x.door(0, 0, 1, 1);
        x.name(0, 3);
        Checks.argument(() -> x.line(0, 0, 1, 1));
        Checks.argument(() -> x.move(0, 30, 0));
        Checks.due(-1, x.line(1, 0, 2, 0));
        Checks.due(4, x.count(1));
        x.move(0, 0, 0);
        Checks.state(() -> x.count(1));
        Checks.argument(() -> x.count(LEAST));
        Checks.argument(() -> x.count(GREATEST));
        x.find();
        Checks.due(4, x.count(1));
        x.line(10, 10, 11, 10);
        Checks.state(() -> x.count(1));
        Checks.state(() -> x.sides(0, 0));
        Checks.argument(() -> x.sides(1, 0));
        Checks.state(() -> x.side(0, 0, 3, 5));
        Checks.argument(() -> x.side(0, 0, 4, 5));
        Checks.state(() -> x.at(0, 0));
        Checks.argument(() -> x.at(0, 24));
        Checks.state(() -> x.between(0, -1));
        Checks.argument(() -> x.between(0, 1));
        Checks.state(() -> x.way(-1, -1));
        Checks.argument(() -> x.way(-1, 1));
        Checks.state(() -> x.name(0, 1000));
        Checks.argument(() -> x.name(0, 1001));
        Checks.state(() -> x.nameOf(0));
        Checks.argument(() -> x.nameOf(1));
        x.find();
        Checks.due(3, x.nameOf(0));
        Checks.due(2, x.count(3) - 4);
    }

    private static void noFinding() {
        TowerHouse x = Houses.fourPlanned();
        Checks.argument(() -> x.sides(0, 0));
        Checks.argument(() -> x.side(0, 0, 0, 0));
        Checks.argument(() -> x.size(0, 0));
        Checks.state(() -> x.at(0, 0));
        Checks.argument(() -> x.between(0, 0));
        Checks.argument(() -> x.between(0, -1));
        Checks.argument(() -> x.way(0, 0));
        Checks.argument(() -> x.way(-1, 0));
        Checks.argument(() -> x.way(-1, -1));
        Checks.argument(() -> x.name(0, 0));
        Checks.argument(() -> x.nameOf(0));
        Checks.argument(() -> x.measure(0, 0, 'a'));
        x.find();
        Checks.due(0, x.way(-1, -1));
    }

    private static void latestFinding() {
        TowerHouse x = new TowerHouse();
        PlanTest.square(x, 0, 0, 12);
        PlanTest.square(x, 4, 4, 2);
        x.line(8, 8, 9, 8);
        x.line(20, 20, 22, 20);
        Checks.due(2, x.find());
        Checks.due(3, x.size(0, 2));
        Checks.due(4 + 2, x.count(3));
        // All that stands inside is moved to the corners of the plan, as lines that shut nothing in.
        x.move(4, -4, 20);
        x.move(5, 0, 18);
        x.move(6, 10, 18);
        x.move(7, 14, 18);
        x.move(8, 12, -8);
        Checks.due(1, x.find());
        Checks.due(1, x.size(0, 2));
        Checks.due(0, x.sides(0, 1));
        Checks.due(48, x.size(0, 1));
        Checks.due(4 + 6 * 2, x.count(3));
        Checks.argument(() -> x.size(1, 0));
        // And all of it is moved together: one ring of the outside.
        for (int k = 0; k < 4; k++) {
            x.move(k, 5, 5);
        }
        x.move(4, 5, -5);
        Checks.due(1, x.find());
        Checks.due(-1, x.at(0, 0));
        Checks.due(0, x.at(5, 5));
    }

    private static void fewerRings() {
        // Two lines stand free inside a square, then hang on it: its other rings are gone.
        TowerHouse x = new TowerHouse();
        PlanTest.square(x, 4, 4, 8);
        x.line(6, 6, 6, 7);
        x.line(8, 6, 8, 7);
        x.find();
        Checks.due(3, x.size(0, 2));
        x.move(4, 0, -2);
        x.move(5, 0, -2);
        x.find();
        Checks.due(1, x.size(0, 2));
        Checks.due(0, x.sides(0, 1));
        Checks.due(0, x.sides(0, 2));
        Checks.argument(() -> x.side(0, 1, 0, 0));
        Checks.due(6 + 4, x.sides(0, 0));
        Checks.due(6, x.count(3));
        // Two lines in the outside likewise.
        TowerHouse y = new TowerHouse();
        PlanTest.square(y, 4, 4, 8);
        y.line(14, 6, 15, 6);
        y.line(14, 8, 15, 8);
        y.find();
        Checks.due(4 + 2 + 2, y.count(3));
        y.move(4, -2, 0);
        y.move(5, -2, 0);
        y.find();
        Checks.due(6 + 4, y.count(3));
        Checks.due(6, y.sides(0, 0));
    }

    private static void allLinesAndDoors() {
        // 17 rooms of 1 by 2 in a row; each line has six doors of rate 1 at its low end.
        TowerHouse x = new TowerHouse();
        x.line(0, 0, 17, 0);
        x.line(0, 2, 17, 2);
        for (int k = 0; k < 18; k++) {
            x.line(k, 0, k, 2);
        }
        Checks.state(() -> x.line(20, 0, 20, 2));
        for (int line = 0; line < 20; line++) {
            for (int door = 1; door <= 6; door++) {
                Checks.due(door, x.door(line, 0, 1, 1));
            }
            int l = line;
            Checks.state(() -> x.door(l, 1, 2, 1));
        }
        Checks.due(17, x.find());
        Checks.due(2, x.way(16, 0));
        Checks.due(1, x.way(16, -1));
        Checks.due(1, x.way(8, 9));
        Checks.due(120, x.build(0));
        Checks.row(Checks.of(0, 17, 0, 0, 0, 0), Facts.portal(x, 0));
        // Line 1 is that above: A is the outside, B the first room.
        Checks.row(Checks.of(17, 0, 1, 5, 0, 2), Facts.portal(x, 11));
        Checks.row(Checks.of(16, 17, 19, 5, 16, 0), Facts.portal(x, 119));
        Checks.due(1, x.cell(0, 0, 1));
        Checks.due(1, x.cell(16, 0, 1));
        Checks.due(2, x.cell(16, 1, 1));
        x.right(0, 0, 0, 1439, 0);
        for (int k = 0; k < 40; k++) {
            x.person(0, 1);
            x.card(k, 100);
            Checks.due(0, x.ask(k, 119, 16));
        }
        Checks.due(40, x.cell(16, 0, 2));
        Checks.due(40, x.told(1));
        Checks.due(40, x.inside(0));
        Houses.leave(x, 17);
        // To the right through its six doors, of which each lets one through; nobody has another way out.
        x.pass(1);
        Checks.due(34, x.told(1));
        x.pass(1);
        Checks.due(28, x.told(1));
        Checks.due(12, 40 - x.cell(16, 0, 2));
        x.fire(16, 0);
        x.pass(1);
        Checks.due(0, x.told(1));
        Checks.due(28, x.inside(0));
    }

    private static void noSuchRing() {
        TowerHouse x = new TowerHouse();
        PlanTest.square(x, 0, 0, 12);
        PlanTest.square(x, 4, 4, 2);
        x.find();
        Checks.due(4, x.sides(0, 0));
        Checks.due(4, x.sides(0, 1));
        Checks.due(0, x.sides(0, 2));
        Checks.due(0, x.sides(0, GREATEST));
        Checks.due(0, x.sides(1, 1));
        Checks.argument(() -> x.sides(0, -1));
        Checks.argument(() -> x.sides(0, LEAST));
        int[] none = {-1, -2, 2, LEAST, GREATEST};
        for (int v : none) {
            Checks.argument(() -> x.sides(v, 0));
        }
    }
}
