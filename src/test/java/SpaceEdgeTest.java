/** The edges that promises 4 to 6 name of spaces, rings, ways and names, a test for each of their sentences. */
final class SpaceEdgeTest {
    private static final int LEAST = Integer.MIN_VALUE;
    private static final int GREATEST = Integer.MAX_VALUE;

    private SpaceEdgeTest() {
    }

    static void all() {
        Checks.test("P4 edge: side, wrong numbers", SpaceEdgeTest::wrongSides);
        Checks.test("P4 edge: side, 'Ring 0 .. the others, 1, 2, .. by their least points'", SpaceEdgeTest::ringNumbers);
        Checks.test("P4 edge: side, 'begins at its least point, with the first of the sides to the right, up'", SpaceEdgeTest::ringBeginnings);
        Checks.test("P4 edge: side, 'to the left, straight on, to the right, and back'", SpaceEdgeTest::turns);
        Checks.test("P4 edge: side, 'what is on its right hand'", SpaceEdgeTest::rightHand);
        Checks.test("P4 edge: side, SIDES are 'pieces, each by itself'", SpaceEdgeTest::sidesArePieces);
        Checks.test("P4 edge: size, AREA, EDGE, rings, wrong numbers", SpaceEdgeTest::sizes);
        Checks.test("P4 edge: at, cells are 0 .. 23", SpaceEdgeTest::cells);
        Checks.test("P5 edge: between, 'for one with itself those that have it on both sides'", SpaceEdgeTest::withItself);
        Checks.test("P5 edge: between, 'NONE: the outside' for the other one", SpaceEdgeTest::betweenOutside);
        Checks.test("P5 edge: way, to itself, 'NONE for either', 'NO if there is no way'", SpaceEdgeTest::noWay);
        Checks.test("P5 edge: way, 'of which it has a part (of some length)'", SpaceEdgeTest::partsOfPieces);
        Checks.test("P5 edge: way, 'also those that came behind the finding'", SpaceEdgeTest::laterDoors);
        Checks.test("P5 edge: way, 'at least', 'also over the outside'", SpaceEdgeTest::leastWay);
        Checks.test("P5 edge: name, '1 .. 1000', 'or none (0)', 'also if the house is BUILT'", SpaceEdgeTest::nameBounds);
        Checks.test("P6 edge: nameOf, 'if it has any (of several the least)'", SpaceEdgeTest::heirs);
        Checks.test("P6 edge: nameOf, 'the greatest such area, of these the one of the least old number'", SpaceEdgeTest::severalNames);
        Checks.test("P6 edge: nameOf, 'for each space that had a name'", SpaceEdgeTest::namelessSpaces);
        Checks.test("P6 edge: nameOf, 'a finding that is not the first one'", SpaceEdgeTest::manyFindings);
    }

    private static void wrongSides() {
        TowerHouse x = new TowerHouse();
        PlanTest.square(x, 2, 2, 12);
        PlanTest.square(x, 4, 4, 2);
        x.find();
        Checks.due(3, x.side(0, 1, 0, 0) - 3);
        int[] noSpace = {-1, -2, 2, LEAST, GREATEST};
        int[] noRing = {-1, 2, LEAST, GREATEST};
        int[] noSide = {-1, 4, LEAST, GREATEST};
        int[] noWhat = {-1, 6, LEAST, GREATEST};
        for (int v : noSpace) {
            Checks.argument(() -> x.side(v, 0, 0, 0));
        }
        for (int v : noRing) {
            Checks.argument(() -> x.side(0, v, 0, 0));
        }
        for (int v : noSide) {
            Checks.argument(() -> x.side(0, 0, v, 0));
            Checks.argument(() -> x.side(0, 1, v, 0));
        }
        for (int v : noWhat) {
            Checks.argument(() -> x.side(0, 0, 0, v));
        }
        Checks.argument(() -> x.side(1, 1, 0, 0));
    }

    private static void ringNumbers() {
        // Four squares inside one: their least points are (4, 3), (4, 9), (12, 1), (12, 7), told in another order.
        TowerHouse x = new TowerHouse();
        PlanTest.square(x, 0, 0, 20);
        PlanTest.square(x, 12, 7, 2);
        PlanTest.square(x, 4, 9, 2);
        PlanTest.square(x, 12, 1, 2);
        Checks.due(4, x.find());
        x.line(4, 3, 6, 3);
        Checks.due(4, x.find());
        Checks.due(5, x.size(0, 2));
        int[][] least = {{0, 0}, {4, 3}, {4, 9}, {12, 1}, {12, 7}};
        for (int ring = 0; ring < 5; ring++) {
            Checks.due(least[ring][0], x.side(0, ring, 0, 1));
            Checks.due(least[ring][1], x.side(0, ring, 0, 2));
            Checks.due(ring == 1 ? 2 : 4, x.sides(0, ring));
        }
        // A square that touches the edge in a point makes one ring with it.
        TowerHouse y = new TowerHouse();
        PlanTest.square(y, 0, 0, 10);
        y.line(0, 4, 3, 4);
        y.line(3, 4, 3, 6);
        y.line(1, 6, 3, 6);
        y.line(1, 4, 1, 6);
        Checks.due(2, y.find());
        Checks.due(1, y.size(0, 2));
        // Round it, the line to it and back; its four sides, of which one is a part of that line.
        Checks.due(5 + 2 + 4, y.sides(0, 0));
        Checks.due(40 + 2 + 8, y.size(0, 1));
    }

    private static void ringBeginnings() {
        // The least point is that with the least x, not that with the least y.
        TowerHouse x = new TowerHouse();
        x.line(5, 0, 10, 0);
        x.line(10, 0, 10, 10);
        x.line(2, 10, 10, 10);
        x.line(2, 6, 2, 10);
        x.line(2, 6, 5, 6);
        x.line(5, 0, 5, 6);
        Checks.due(1, x.find());
        Checks.row(Checks.of(4, 2, 6, 5, 6, -1), PlanTest.side(x, 0, 0, 0));
        // To the left, straight on, to the right: here it is to the right, down along the line of x = 5.
        Checks.row(Checks.of(5, 5, 6, 5, 0, -1), PlanTest.side(x, 0, 0, 1));
        Checks.row(Checks.of(0, 5, 0, 10, 0, -1), PlanTest.side(x, 0, 0, 2));
        Checks.row(Checks.of(3, 2, 10, 2, 6, -1), PlanTest.side(x, 0, 0, 5));
        // Inside: a square's ring begins upwards (the side to the right is not in it, but in that of the square).
        TowerHouse y = new TowerHouse();
        PlanTest.square(y, 0, 0, 20);
        PlanTest.square(y, 4, 4, 3);
        y.line(10, 4, 10, 8);
        y.line(14, 4, 18, 4);
        y.line(14, 4, 14, 8);
        Checks.due(2, y.find());
        Checks.row(Checks.of(6, 4, 4, 4, 7, 1), PlanTest.side(y, 0, 1, 0));
        Checks.row(Checks.of(8, 10, 4, 10, 8, 0), PlanTest.side(y, 0, 2, 0));
        // Where both are in it, that to the right is the first.
        Checks.row(Checks.of(9, 14, 4, 18, 4, 0), PlanTest.side(y, 0, 3, 0));
        Checks.row(Checks.of(10, 14, 8, 14, 4, 0), PlanTest.side(y, 0, 3, 3));
    }

    private static void turns() {
        // A cross that stands free, from its left end: right to the middle, then up is to the left, and so on round it.
        TowerHouse x = new TowerHouse();
        PlanTest.square(x, 0, 0, 20);
        x.line(4, 6, 8, 6);
        x.line(6, 4, 6, 8);
        x.find();
        Checks.due(8, x.sides(0, 1));
        long[][] due = {
            {4, 4, 6, 6, 6, 0}, {5, 6, 6, 6, 8, 0}, {5, 6, 8, 6, 6, 0}, {4, 6, 6, 8, 6, 0},
            {4, 8, 6, 6, 6, 0}, {5, 6, 6, 6, 4, 0}, {5, 6, 4, 6, 6, 0}, {4, 6, 6, 4, 6, 0}};
        for (int k = 0; k < 8; k++) {
            Checks.row(due[k], PlanTest.side(x, 0, 1, k));
        }
        // Without the upper arm one goes straight on, without the right one, too, to the right.
        TowerHouse y = new TowerHouse();
        PlanTest.square(y, 0, 0, 20);
        y.line(4, 6, 8, 6);
        y.line(6, 4, 6, 6);
        y.line(12, 6, 14, 6);
        y.line(14, 4, 14, 6);
        y.find();
        Checks.row(Checks.of(4, 6, 6, 8, 6, 0), PlanTest.side(y, 0, 1, 1));
        Checks.row(Checks.of(4, 8, 6, 6, 6, 0), PlanTest.side(y, 0, 1, 2));
        Checks.row(Checks.of(5, 6, 6, 6, 4, 0), PlanTest.side(y, 0, 1, 3));
        Checks.row(Checks.of(7, 14, 6, 14, 4, 0), PlanTest.side(y, 0, 2, 1));
        Checks.row(Checks.of(7, 14, 4, 14, 6, 0), PlanTest.side(y, 0, 2, 2));
    }

    private static void rightHand() {
        TowerHouse x = Houses.fourPlanned();
        x.line(1, 0, 1, 2);
        x.find();
        // Space 3, from (4, 4): to the right is 2 below, the outside beyond x = 8 and y = 8, and 1 beside x = 4.
        Checks.row(Checks.of(2, -1, -1, 1), Checks.of(x.side(3, 0, 0, 5), x.side(3, 0, 1, 5), x.side(3, 0, 2, 5), x.side(3, 0, 3, 5)));
        // A line that ends in a space has that on both hands.
        Checks.due(6, x.side(0, 0, 1, 0));
        Checks.due(0, x.side(0, 0, 1, 5));
        Checks.due(0, x.side(0, 0, 2, 5));
        Checks.due(-1, x.side(0, 0, 0, 5));
        Checks.due(2, x.side(0, 0, 4, 5));
        Checks.due(1, x.side(0, 0, 5, 5));
    }

    private static void sidesArePieces() {
        // Two lines of a row are two sides, and a line on which another one ends is two, also on its other side.
        TowerHouse x = new TowerHouse();
        x.line(0, 0, 4, 0);
        x.line(4, 0, 9, 0);
        x.line(0, 6, 9, 6);
        x.line(0, 0, 0, 6);
        x.line(9, 0, 9, 6);
        x.line(6, 6, 6, 9);
        x.find();
        Checks.due(6, x.sides(0, 0));
        Checks.row(Checks.of(0, 0, 0, 4, 0, -1), PlanTest.side(x, 0, 0, 0));
        Checks.row(Checks.of(1, 4, 0, 9, 0, -1), PlanTest.side(x, 0, 0, 1));
        Checks.row(Checks.of(2, 9, 6, 6, 6, -1), PlanTest.side(x, 0, 0, 3));
        Checks.row(Checks.of(2, 6, 6, 0, 6, -1), PlanTest.side(x, 0, 0, 4));
        Checks.due(6 + 2, x.count(3));
    }

    private static void sizes() {
        TowerHouse x = new TowerHouse();
        PlanTest.square(x, 0, 0, 24);
        PlanTest.square(x, 1, 1, 22);
        PlanTest.square(x, 2, 2, 1);
        x.line(10, 10, 11, 10);
        Checks.due(3, x.find());
        Checks.due(576 - 484, x.size(0, 0));
        Checks.due(96 + 88, x.size(0, 1));
        Checks.due(2, x.size(0, 2));
        Checks.due(483, x.size(1, 0));
        // Both sides of the line inside count.
        Checks.due(88 + 4 + 2, x.size(1, 1));
        Checks.due(3, x.size(1, 2));
        Checks.due(1, x.size(2, 0));
        Checks.due(4, x.size(2, 1));
        Checks.due(1, x.size(2, 2));
        int[] noSpace = {-1, -2, 3, LEAST, GREATEST};
        for (int v : noSpace) {
            Checks.argument(() -> x.size(v, 0));
        }
        int[] noWhat = {-1, 3, LEAST, GREATEST};
        for (int v : noWhat) {
            Checks.argument(() -> x.size(0, v));
        }
        // A second finding counts anew.
        x.find();
        Checks.due(96 + 88, x.size(0, 1));
        Checks.due(483, x.size(1, 0));
    }

    private static void cells() {
        TowerHouse x = new TowerHouse();
        PlanTest.square(x, 0, 0, 24);
        x.find();
        for (int k = 0; k < 24; k++) {
            Checks.due(0, x.at(k, 0));
            Checks.due(0, x.at(k, 23));
            Checks.due(0, x.at(0, k));
            Checks.due(0, x.at(23, k));
        }
        int[] beyond = {-1, 24, LEAST, GREATEST};
        for (int v : beyond) {
            Checks.argument(() -> x.at(v, 0));
            Checks.argument(() -> x.at(0, v));
        }
        // Without a line at the edge of the plan what is there is the outside, from each of its four edges.
        int[][] open = {{0, 24, 24, 24}, {24, 0, 24, 24}, {0, 0, 24, 0}, {0, 0, 0, 24}};
        for (int gap = 0; gap < 4; gap++) {
            TowerHouse y = new TowerHouse();
            for (int k = 0; k < 4; k++) {
                if (k != gap) {
                    y.line(open[k][0], open[k][1], open[k][2], open[k][3]);
                }
            }
            Checks.due(0, y.find());
            Checks.due(-1, y.at(12, 12));
            Checks.due(6, y.count(3));
        }
    }

    private static void withItself() {
        TowerHouse x = new TowerHouse();
        PlanTest.square(x, 0, 0, 12);
        Checks.due(1, x.find());
        Checks.due(0, x.between(0, 0));
        // One that ends inside, one that stands free, and a part of one that goes on in the outside.
        x.line(3, 0, 3, 5);
        x.line(6, 6, 8, 6);
        x.line(9, 4, 20, 4);
        x.line(14, 10, 18, 10);
        x.find();
        Checks.due(5 + 2 + 3, x.between(0, 0));
        Checks.due(48, x.between(0, -1));
        Checks.argument(() -> x.between(-1, -1));
    }

    private static void betweenOutside() {
        TowerHouse x = new TowerHouse();
        PlanTest.square(x, 0, 0, 4);
        x.line(4, 4, 8, 4);
        x.line(8, 1, 8, 4);
        x.line(4, 1, 8, 1);
        Checks.due(2, x.find());
        Checks.due(3, x.between(0, 1));
        Checks.due(3, x.between(1, 0));
        Checks.due(13, x.between(0, -1));
        Checks.due(11, x.between(1, -1));
        int[] none = {-2, 2, LEAST, GREATEST};
        for (int v : none) {
            Checks.argument(() -> x.between(v, 0));
            Checks.argument(() -> x.between(0, v));
        }
        Checks.argument(() -> x.between(-1, 0));
        // At all edges of the plan.
        TowerHouse y = new TowerHouse();
        PlanTest.square(y, 0, 0, 24);
        y.line(12, 0, 12, 24);
        y.find();
        Checks.due(12 + 24 + 12, y.between(0, -1));
        Checks.due(48, y.between(1, -1));
        Checks.due(24, y.between(0, 1));
    }

    private static void noWay() {
        TowerHouse x = new TowerHouse();
        PlanTest.square(x, 0, 0, 4);
        PlanTest.square(x, 10, 0, 4);
        x.find();
        Checks.due(0, x.way(0, 0));
        Checks.due(0, x.way(1, 1));
        Checks.due(0, x.way(-1, -1));
        Checks.due(-2, x.way(0, 1));
        Checks.due(-2, x.way(1, 0));
        Checks.due(-2, x.way(0, -1));
        Checks.due(-2, x.way(-1, 0));
        int[] none = {-2, 2, LEAST, GREATEST};
        for (int v : none) {
            Checks.argument(() -> x.way(v, 0));
            Checks.argument(() -> x.way(0, v));
            Checks.argument(() -> x.way(v, -1));
        }
        // A door of a line that has one space on both sides joins it with itself: no way comes of it.
        x.line(2, 0, 2, 2);
        x.door(8, 0, 2, 1);
        x.find();
        Checks.due(-2, x.way(0, -1));
        Checks.due(0, x.way(0, 0));
    }

    private static void partsOfPieces() {
        // Spaces 0 .. 2 lie along the line 0; a door from 4 to 8 has a part of the piece of space 1 alone.
        TowerHouse x = new TowerHouse();
        x.line(0, 0, 12, 0);
        x.line(0, 4, 12, 4);
        x.line(0, 0, 0, 4);
        x.line(4, 0, 4, 4);
        x.line(8, 0, 8, 4);
        x.line(12, 0, 12, 4);
        x.find();
        x.door(0, 4, 8, 1);
        Checks.due(-2, x.way(0, -1));
        Checks.due(1, x.way(1, -1));
        Checks.due(-2, x.way(2, -1));
        x.door(0, 3, 4, 1);
        Checks.due(1, x.way(0, -1));
        Checks.due(-2, x.way(2, -1));
        // A door over three pieces joins three pairs.
        x.door(1, 3, 9, 1);
        Checks.due(1, x.way(2, -1));
        Checks.due(2, x.way(2, 0));
    }

    private static void laterDoors() {
        TowerHouse x = new TowerHouse();
        PlanTest.square(x, 0, 0, 4);
        x.door(0, 0, 1, 1);
        x.find();
        Checks.due(1, x.way(0, -1));
        PlanTest.square(x, 10, 0, 4);
        x.find();
        Checks.due(-2, x.way(1, 0));
        x.door(4, 0, 1, 1);
        Checks.due(2, x.way(1, 0));
        Checks.due(0, x.build(0) - 2);
        // When the house is built, ways can still be asked for.
        Checks.due(2, x.way(1, 0));
    }

    private static void leastWay() {
        // A row of five; from the first one to the last one it is nearer over the outside.
        TowerHouse x = new TowerHouse();
        x.line(0, 0, 10, 0);
        x.line(0, 4, 10, 4);
        for (int k = 0; k < 6; k++) {
            x.line(2 * k, 0, 2 * k, 4);
        }
        Checks.due(5, x.find());
        for (int k = 1; k < 5; k++) {
            x.door(2 + k, 0, 1, 1);
        }
        Checks.due(4, x.way(0, 4));
        Checks.due(4, x.way(4, 0));
        Checks.due(-2, x.way(0, -1));
        x.door(0, 0, 1, 1);
        Checks.due(5, x.way(4, -1));
        x.door(0, 9, 10, 1);
        Checks.due(2, x.way(0, 4));
        Checks.due(3, x.way(0, 3));
        Checks.due(2, x.way(0, 2));
        // As many doors one behind the other as there are spaces.
        TowerHouse y = new TowerHouse();
        y.line(0, 0, 24, 0);
        y.line(0, 1, 24, 1);
        for (int k = 0; k < 18; k++) {
            y.line(k, 0, k, 1);
        }
        y.find();
        for (int k = 0; k < 17; k++) {
            y.door(2 + k, 0, 1, 1);
        }
        Checks.due(17, y.way(16, -1));
        Checks.due(17, y.way(-1, 16));
        Checks.due(16, y.way(0, 16));
    }

    private static void nameBounds() {
        TowerHouse x = Houses.fourPlanned();
        x.find();
        Checks.due(0, x.nameOf(0));
        Checks.due(0, x.name(0, 1));
        Checks.due(1, x.name(0, 1000));
        int[] wrong = {-1, 1001, LEAST, GREATEST};
        for (int v : wrong) {
            Checks.argument(() -> x.name(0, v));
        }
        int[] none = {-1, -2, 4, LEAST, GREATEST};
        for (int v : none) {
            Checks.argument(() -> x.name(v, 1));
            Checks.argument(() -> x.nameOf(v));
        }
        Checks.due(1000, x.nameOf(0));
        Checks.due(1000, x.name(0, 0));
        Checks.due(0, x.nameOf(0));
        // Two spaces may have one name.
        x.name(1, 7);
        x.name(2, 7);
        x.build(0);
        Checks.state(() -> x.name(1, 8));
        Checks.argument(() -> x.name(1, 1001));
        Checks.argument(() -> x.name(4, 8));
        Checks.due(7, x.nameOf(1));
        Checks.due(7, x.nameOf(2));
    }

    private static void heirs() {
        // Parted in two: 5 to 4 the greater one has it, of alike halves the least one.
        TowerHouse x = new TowerHouse();
        PlanTest.square(x, 0, 0, 9);
        x.find();
        x.name(0, 9);
        x.line(4, 0, 4, 9);
        x.find();
        Checks.due(0, x.nameOf(0));
        Checks.due(9, x.nameOf(1));
        TowerHouse y = new TowerHouse();
        PlanTest.square(y, 0, 0, 8);
        y.find();
        y.name(0, 9);
        y.line(4, 0, 4, 8);
        y.find();
        Checks.due(9, y.nameOf(0));
        Checks.due(0, y.nameOf(1));
        // The area in common counts, not that of the new one: of the old one 2 columns are in the great one, 3 in the small one.
        TowerHouse z = new TowerHouse();
        z.line(0, 0, 20, 0);
        z.line(0, 4, 20, 4);
        z.line(0, 0, 0, 4);
        z.line(10, 0, 10, 4);
        z.line(15, 0, 15, 4);
        z.line(20, 0, 20, 4);
        z.find();
        z.name(1, 6);
        z.move(3, 2, 0);
        z.move(4, 1, 0);
        z.find();
        Checks.due(0, z.nameOf(0));
        Checks.due(6, z.nameOf(1));
        z.find();
        z.name(1, 0);
        z.name(0, 5);
        z.move(3, -1, 0);
        z.find();
        Checks.due(5, z.nameOf(0));
        // One cell in common is enough; none is not.
        TowerHouse w = new TowerHouse();
        PlanTest.square(w, 0, 0, 3);
        w.find();
        w.name(0, 4);
        for (int k = 0; k < 4; k++) {
            Checks.due(true, w.move(k, 2, 2));
        }
        w.find();
        Checks.due(4, w.nameOf(0));
        for (int k = 0; k < 4; k++) {
            Checks.due(true, w.move(k, 0, 4));
        }
        w.find();
        Checks.due(0, w.nameOf(0));
    }

    /** Spaces side by side, each 4 high, with lines at these places; the last line is moved out of the way later. */
    private static TowerHouse rowOf(int... at) {
        TowerHouse x = new TowerHouse();
        x.line(at[0], 0, at[at.length - 1], 0);
        x.line(at[0], 4, at[at.length - 1], 4);
        for (int v : at) {
            x.line(v, 0, v, 4);
        }
        x.find();
        return x;
    }

    private static void severalNames() {
        // Three become one: of 3, 5 and 4 columns the second one's name stays.
        TowerHouse x = rowOf(0, 3, 8, 12);
        x.name(0, 1);
        x.name(1, 2);
        x.name(2, 3);
        x.move(3, 0, 10);
        x.move(4, 0, 10);
        Checks.due(1, x.find());
        Checks.due(2, x.nameOf(0));
        // Of alike ones that of the least old number.
        TowerHouse y = rowOf(0, 4, 8, 12);
        y.name(1, 2);
        y.name(2, 3);
        y.move(3, 0, 10);
        y.move(4, 0, 10);
        y.find();
        Checks.due(2, y.nameOf(0));
        // It is to have a name of each whose heir it is, no others: the old space 0 has its greater part in the new 0.
        TowerHouse z = rowOf(0, 10, 12);
        z.name(0, 1);
        z.name(1, 2);
        z.move(3, -4, 0);
        z.find();
        Checks.due(1, z.nameOf(0));
        Checks.due(2, z.nameOf(1));
        // Here the new 1 has more of the old 0 (6) than of the old 1 (2), and is the heir of both.
        TowerHouse w = rowOf(0, 10, 12);
        w.name(0, 1);
        w.name(1, 2);
        w.move(3, -6, 0);
        w.find();
        Checks.due(0, w.nameOf(0));
        Checks.due(1, w.nameOf(1));
    }

    private static void namelessSpaces() {
        // The greater one had no name, so it takes none from the one that had.
        TowerHouse x = rowOf(0, 10, 12);
        x.name(1, 2);
        x.move(3, 0, 10);
        x.find();
        Checks.due(2, x.nameOf(0));
        // A name that was taken back is not given on, and one that was lost does not come again.
        TowerHouse y = rowOf(0, 10, 12);
        y.name(0, 5);
        y.name(0, 0);
        y.name(1, 6);
        y.find();
        Checks.due(0, y.nameOf(0));
        Checks.due(6, y.nameOf(1));
        y.move(4, -12, 10);
        Checks.due(1, y.find());
        Checks.due(0, y.nameOf(0));
        y.move(4, 12, -10);
        Checks.due(2, y.find());
        Checks.due(0, y.nameOf(1));
    }

    private static void manyFindings() {
        TowerHouse x = rowOf(0, 10, 12);
        x.name(0, 1000);
        x.name(1, 1);
        for (int k = 1; k < 60; k++) {
            Checks.due(2, x.find());
            Checks.due(1000, x.nameOf(0));
            Checks.due(1, x.nameOf(1));
        }
        // A space that got a lesser number because another one is gone keeps its name.
        TowerHouse y = rowOf(2, 6, 10);
        y.name(1, 8);
        y.move(2, -2, 10);
        Checks.due(1, y.find());
        Checks.due(8, y.nameOf(0));
        // Many names: each of 81 spaces keeps its own.
        TowerHouse z = new TowerHouse();
        for (int k = 0; k < 10; k++) {
            z.line(2 * k, 0, 2 * k, 18);
            z.line(0, 2 * k, 18, 2 * k);
        }
        z.find();
        for (int k = 0; k < 81; k++) {
            z.name(k, k + 1);
        }
        z.find();
        for (int k = 0; k < 81; k++) {
            Checks.due(k + 1, z.nameOf(k));
        }
    }
}
