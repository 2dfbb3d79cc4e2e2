/** Promises 1 to 6, as far as they tell of the plan. */
final class PlanTest {
    private PlanTest() {
    }

    static void all() {
        Checks.test("P1 a new object has an empty plan", PlanTest::newObject);
        Checks.test("P2 line: numbers, along one another, wrong ones", PlanTest::lines);
        Checks.test("P2 line: at most 20", PlanTest::twentyLines);
        Checks.test("P2 move: moves with doors, is refused along another one, wrong ones", PlanTest::moves);
        Checks.test("P2 door: counts, edges, wrong ones", PlanTest::doors);
        Checks.test("P2 when built nothing of the plan changes", PlanTest::builtPlan);
        Checks.test("P3 find: numbers by least points, at most 60", PlanTest::findings);
        Checks.test("P3 count: points, pieces, sides of the outside", PlanTest::counts);
        Checks.test("P3 sides: of rings, 0 for none", PlanTest::sideCounts);
        Checks.test("P4 side: a square, a hole, lines that end inside", PlanTest::sides);
        Checks.test("P4 side: beginnings and turns", PlanTest::turns);
        Checks.test("P4 size: area, edge, rings", PlanTest::sizes);
        Checks.test("P4 at: spaces of cells", PlanTest::cells);
        Checks.test("P5 between: lengths", PlanTest::between);
        Checks.test("P5 way: over doors and the outside", PlanTest::ways);
        Checks.test("P5 name: gives and takes", PlanTest::names);
        Checks.test("P6 nameOf: names go on to new spaces", PlanTest::namesGoOn);
        Checks.test("P6 nameOf: of several the greatest area, then the least number", PlanTest::namesContend);
        Checks.test("P3-6 a line that came or was moved makes a finding old", PlanTest::oldFinding);
    }

    private static void newObject() {
        TowerHouse x = new TowerHouse();
        Checks.due(-1, TowerHouse.NONE);
        Checks.due(-2, TowerHouse.NO);
        Checks.due(1000000000000L, TowerHouse.UNKNOWN);
        Checks.state(() -> x.count(0));
        Checks.due(0, x.find());
        for (int what = 0; what < 4; what++) {
            Checks.due(0, x.count(what));
        }
        Checks.due(-1, x.at(3, 3));
        Checks.due(0, x.way(-1, -1));
        Checks.state(() -> x.build(0));
    }

    private static void lines() {
        TowerHouse x = new TowerHouse();
        Checks.due(0, x.line(4, 6, 10, 6));
        Checks.due(1, x.line(14, 6, 10, 6));
        Checks.due(-1, x.line(9, 6, 12, 6));
        Checks.due(-1, x.line(4, 6, 10, 6));
        Checks.due(-1, x.line(6, 6, 5, 6));
        Checks.due(2, x.line(5, 0, 5, 24));
        Checks.due(-1, x.line(5, 24, 5, 23));
        Checks.due(3, x.line(6, 24, 6, 23));
        Checks.due(4, x.line(0, 6, 4, 6));
        Checks.argument(() -> x.line(3, 3, 3, 3));
        Checks.argument(() -> x.line(3, 3, 4, 4));
        Checks.argument(() -> x.line(-1, 3, 4, 3));
        Checks.argument(() -> x.line(0, 25, 4, 25));
        Checks.argument(() -> x.line(0, 3, 25, 3));
        Checks.argument(() -> x.line(0, -1, 0, 3));
        Checks.due(5, x.line(0, 0, 24, 0));
    }

    private static void twentyLines() {
        TowerHouse x = new TowerHouse();
        for (int k = 0; k < 20; k++) {
            Checks.due(k, x.line(0, k, 5, k));
        }
        Checks.state(() -> x.line(0, 20, 5, 20));
        Checks.state(() -> x.line(0, 1, 5, 1));
        Checks.argument(() -> x.line(0, 20, 5, 21));
        Checks.due(true, x.move(19, 0, 5));
    }

    private static void moves() {
        TowerHouse x = new TowerHouse();
        x.line(8, 4, 2, 4);
        x.line(2, 8, 8, 8);
        x.line(8, 4, 8, 8);
        x.line(2, 4, 2, 8);
        x.door(0, 0, 1, 1);
        x.find();
        Checks.due(1, x.way(0, -1));
        Checks.due(false, x.move(0, 5, 4));
        Checks.due(4, x.count(1));
        Checks.due(true, x.move(0, 6, 4));
        Checks.state(() -> x.count(1));
        Checks.due(true, x.move(0, -6, -4));
        Checks.due(true, x.move(0, 0, 0));
        Checks.due(1, x.find());
        Checks.due(1, x.way(0, -1));
        Checks.due(true, x.move(0, 0, 1));
        Checks.due(1, x.find());
        Checks.due(18, x.size(0, 0));
        Checks.due(1, x.way(0, -1));
        Checks.argument(() -> x.move(0, -3, 0));
        Checks.argument(() -> x.move(0, 17, 0));
        Checks.argument(() -> x.move(0, 0, -6));
        Checks.argument(() -> x.move(0, 0, 20));
        Checks.argument(() -> x.move(0, Integer.MAX_VALUE, 0));
        Checks.argument(() -> x.move(0, 0, Integer.MIN_VALUE));
        Checks.argument(() -> x.move(4, 0, 0));
        Checks.argument(() -> x.move(-1, 0, 0));
        Checks.due(18, x.size(0, 0));
        Checks.due(true, x.move(0, 16, 19));
    }

    private static void doors() {
        TowerHouse x = new TowerHouse();
        x.line(2, 9, 2, 4);
        Checks.due(1, x.door(0, 0, 5, 5));
        Checks.due(2, x.door(0, 4, 5, 1));
        Checks.argument(() -> x.door(0, 2, 2, 1));
        Checks.argument(() -> x.door(0, 3, 2, 1));
        Checks.argument(() -> x.door(0, -1, 2, 1));
        Checks.argument(() -> x.door(0, 0, 6, 1));
        Checks.argument(() -> x.door(0, 0, 1, 0));
        Checks.argument(() -> x.door(0, 0, 1, 6));
        Checks.argument(() -> x.door(1, 0, 1, 1));
        Checks.argument(() -> x.door(-1, 0, 1, 1));
        for (int k = 3; k <= 6; k++) {
            Checks.due(k, x.door(0, 0, 1, 1));
        }
        Checks.state(() -> x.door(0, 0, 1, 1));
        Checks.argument(() -> x.door(0, 0, 9, 1));
    }

    private static void builtPlan() {
        TowerHouse x = Houses.four();
        Checks.state(() -> x.line(10, 10, 12, 10));
        Checks.state(() -> x.move(0, 1, 1));
        Checks.state(() -> x.door(0, 4, 5, 1));
        Checks.state(x::find);
        Checks.state(() -> x.name(0, 0));
        Checks.argument(() -> x.line(10, 10, 12, 11));
        Checks.argument(() -> x.move(6, 0, 0));
        Checks.argument(() -> x.door(0, 4, 4, 1));
        Checks.argument(() -> x.name(4, 0));
        Checks.due(4, x.count(0));
        Checks.due(11, x.nameOf(0));
    }

    private static void findings() {
        TowerHouse x = new TowerHouse();
        // Three squares, told in another order than that of their least points.
        square(x, 10, 0, 2);
        square(x, 0, 10, 2);
        square(x, 0, 3, 2);
        Checks.due(3, x.find());
        Checks.due(0, x.at(0, 3));
        Checks.due(1, x.at(0, 10));
        Checks.due(2, x.at(10, 0));
        for (int k = 1; k < 60; k++) {
            Checks.due(3, x.find());
        }
        Checks.state(x::find);
        Checks.due(3, x.count(0));
    }

    /** Four lines round a square. */
    static void square(TowerHouse x, int left, int low, int width) {
        x.line(left, low, left + width, low);
        x.line(left, low + width, left + width, low + width);
        x.line(left, low, left, low + width);
        x.line(left + width, low, left + width, low + width);
    }

    private static void counts() {
        TowerHouse x = new TowerHouse();
        x.line(0, 2, 6, 2);
        x.line(3, 0, 3, 5);
        Checks.due(0, x.find());
        Checks.due(0, x.count(0));
        Checks.due(5, x.count(1));
        Checks.due(4, x.count(2));
        Checks.due(8, x.count(3));
        x.line(6, 2, 9, 2);
        x.line(9, 2, 9, 5);
        x.line(3, 5, 9, 5);
        Checks.due(1, x.find());
        // Ends: (0,2) (6,2) (3,0) (3,5) (9,2) (9,5), and (3,2), where lines meet.
        Checks.due(7, x.count(1));
        Checks.due(7, x.count(2));
        // Twice 2 that end there, and 5 round the space.
        Checks.due(9, x.count(3));
        Checks.due(5, x.sides(0, 0));
        Checks.argument(() -> x.count(-1));
        Checks.argument(() -> x.count(4));
        x.line(0, 0, 1, 0);
        Checks.argument(() -> x.count(4));
        Checks.state(() -> x.count(0));
        Checks.argument(() -> new TowerHouse().count(4));
        Checks.state(() -> new TowerHouse().count(3));
    }

    private static void sideCounts() {
        TowerHouse x = new TowerHouse();
        square(x, 0, 0, 12);
        square(x, 2, 6, 2);
        x.line(2, 2, 5, 2);
        Checks.due(2, x.find());
        Checks.due(4, x.sides(0, 0));
        Checks.due(2, x.sides(0, 1));
        Checks.due(4, x.sides(0, 2));
        Checks.due(0, x.sides(0, 3));
        Checks.due(0, x.sides(0, Integer.MAX_VALUE));
        Checks.due(4, x.sides(1, 0));
        Checks.due(0, x.sides(1, 1));
        Checks.argument(() -> x.sides(0, -1));
        Checks.argument(() -> x.sides(2, 0));
        Checks.argument(() -> x.sides(-1, 0));
        Checks.argument(() -> new TowerHouse().sides(0, 0));
    }

    static long[] side(TowerHouse x, int space, int ring, int k) {
        long[] all = new long[6];
        for (int what = 0; what < 6; what++) {
            all[what] = x.side(space, ring, k, what);
        }
        return all;
    }

    private static void sides() {
        TowerHouse x = new TowerHouse();
        square(x, 0, 0, 12);
        square(x, 4, 4, 2);
        Checks.due(2, x.find());
        Checks.row(Checks.of(0, 0, 0, 12, 0, -1), side(x, 0, 0, 0));
        Checks.row(Checks.of(3, 12, 0, 12, 12, -1), side(x, 0, 0, 1));
        Checks.row(Checks.of(1, 12, 12, 0, 12, -1), side(x, 0, 0, 2));
        Checks.row(Checks.of(2, 0, 12, 0, 0, -1), side(x, 0, 0, 3));
        Checks.row(Checks.of(6, 4, 4, 4, 6, 1), side(x, 0, 1, 0));
        Checks.row(Checks.of(5, 4, 6, 6, 6, 1), side(x, 0, 1, 1));
        Checks.row(Checks.of(7, 6, 6, 6, 4, 1), side(x, 0, 1, 2));
        Checks.row(Checks.of(4, 6, 4, 4, 4, 1), side(x, 0, 1, 3));
        Checks.row(Checks.of(4, 4, 4, 6, 4, 0), side(x, 1, 0, 0));
        Checks.argument(() -> x.side(0, 0, 4, 0));
        Checks.argument(() -> x.side(0, 0, -1, 0));
        Checks.argument(() -> x.side(0, 2, 0, 0));
        Checks.argument(() -> x.side(0, -1, 0, 0));
        Checks.argument(() -> x.side(2, 0, 0, 0));
        Checks.argument(() -> x.side(-1, 0, 0, 0));
        Checks.argument(() -> x.side(0, 0, 0, 6));
        Checks.argument(() -> x.side(0, 0, 0, -1));
        x.line(1, 1, 2, 1);
        Checks.argument(() -> x.side(0, 0, 4, 0));
        Checks.state(() -> x.side(0, 0, 3, 0));
    }

    private static void turns() {
        TowerHouse x = new TowerHouse();
        square(x, 0, 0, 10);
        // An angle that stands free, and a cross that hangs on the left line.
        x.line(4, 4, 7, 4);
        x.line(4, 4, 4, 6);
        x.line(0, 8, 3, 8);
        x.line(2, 7, 2, 9);
        Checks.due(1, x.find());
        Checks.due(2, x.size(0, 2));
        // The angle: to the right, back, up, back.
        Checks.due(4, x.sides(0, 1));
        Checks.row(Checks.of(4, 4, 4, 7, 4, 0), side(x, 0, 1, 0));
        Checks.row(Checks.of(4, 7, 4, 4, 4, 0), side(x, 0, 1, 1));
        Checks.row(Checks.of(5, 4, 4, 4, 6, 0), side(x, 0, 1, 2));
        Checks.row(Checks.of(5, 4, 6, 4, 4, 0), side(x, 0, 1, 3));
        // Down the left line to the cross, along it, and on.
        Checks.due(5 + 8, x.sides(0, 0));
        Checks.row(Checks.of(2, 0, 10, 0, 8, -1), side(x, 0, 0, 3));
        Checks.row(Checks.of(6, 0, 8, 2, 8, 0), side(x, 0, 0, 4));
        Checks.row(Checks.of(7, 2, 8, 2, 9, 0), side(x, 0, 0, 5));
        Checks.row(Checks.of(7, 2, 9, 2, 8, 0), side(x, 0, 0, 6));
        Checks.row(Checks.of(6, 2, 8, 3, 8, 0), side(x, 0, 0, 7));
        Checks.row(Checks.of(6, 3, 8, 2, 8, 0), side(x, 0, 0, 8));
        Checks.row(Checks.of(7, 2, 8, 2, 7, 0), side(x, 0, 0, 9));
        Checks.row(Checks.of(7, 2, 7, 2, 8, 0), side(x, 0, 0, 10));
        Checks.row(Checks.of(6, 2, 8, 0, 8, 0), side(x, 0, 0, 11));
        Checks.row(Checks.of(2, 0, 8, 0, 0, -1), side(x, 0, 0, 12));
    }

    private static void sizes() {
        TowerHouse x = new TowerHouse();
        square(x, 0, 0, 12);
        square(x, 4, 4, 2);
        x.line(5, 0, 5, 3);
        x.find();
        Checks.due(144 - 4, x.size(0, 0));
        Checks.due(48 + 8 + 6, x.size(0, 1));
        Checks.due(2, x.size(0, 2));
        Checks.due(4, x.size(1, 0));
        Checks.due(8, x.size(1, 1));
        Checks.due(1, x.size(1, 2));
        Checks.argument(() -> x.size(2, 0));
        Checks.argument(() -> x.size(-1, 0));
        Checks.argument(() -> x.size(0, 3));
        Checks.argument(() -> x.size(0, -1));
        x.move(8, 1, 0);
        Checks.argument(() -> x.size(2, 0));
        Checks.state(() -> x.size(0, 0));
    }

    private static void cells() {
        TowerHouse x = Houses.fourPlanned();
        Checks.state(() -> x.at(0, 0));
        x.find();
        Checks.due(0, x.at(3, 3));
        Checks.due(1, x.at(3, 4));
        Checks.due(2, x.at(4, 3));
        Checks.due(3, x.at(7, 7));
        Checks.due(-1, x.at(8, 7));
        Checks.due(-1, x.at(23, 23));
        Checks.argument(() -> x.at(-1, 0));
        Checks.argument(() -> x.at(0, 24));
        // A line that has an open end parts nothing.
        TowerHouse y = new TowerHouse();
        square(y, 0, 0, 24);
        y.line(12, 0, 12, 23);
        Checks.due(1, y.find());
        Checks.due(0, y.at(0, 0));
        Checks.due(0, y.at(23, 0));
    }

    private static void between() {
        TowerHouse x = Houses.fourPlanned();
        x.line(2, 0, 2, 3);
        x.line(9, 1, 9, 3);
        x.find();
        Checks.due(4, x.between(0, 1));
        Checks.due(4, x.between(1, 0));
        Checks.due(0, x.between(0, 3));
        Checks.due(8, x.between(0, -1));
        Checks.due(3, x.between(0, 0));
        Checks.due(0, x.between(1, 1));
        Checks.argument(() -> x.between(4, 0));
        Checks.argument(() -> x.between(0, 4));
        Checks.argument(() -> x.between(0, -2));
        Checks.argument(() -> x.between(-1, 0));
        x.line(20, 20, 21, 20);
        Checks.state(() -> x.between(0, 1));
        Checks.argument(() -> new TowerHouse().between(0, -1));
    }

    private static void ways() {
        TowerHouse x = Houses.fourPlanned();
        x.find();
        Checks.due(0, x.way(0, 0));
        Checks.due(1, x.way(0, 1));
        Checks.due(2, x.way(0, 3));
        Checks.due(1, x.way(3, -1));
        Checks.due(2, x.way(-1, 1));
        Checks.due(0, x.way(-1, -1));
        Checks.argument(() -> x.way(4, 0));
        Checks.argument(() -> x.way(0, -2));
        // Without doors there is no way; a door that came behind the finding counts, and over the outside too.
        TowerHouse y = new TowerHouse();
        square(y, 0, 0, 4);
        square(y, 10, 0, 4);
        y.find();
        Checks.due(-2, y.way(0, 1));
        y.door(0, 0, 1, 1);
        Checks.due(-2, y.way(0, 1));
        Checks.due(1, y.way(0, -1));
        y.door(7, 3, 4, 1);
        Checks.due(2, y.way(0, 1));
        y.line(20, 20, 21, 20);
        Checks.state(() -> y.way(0, 1));
        // A door has a part of a piece only if that has some length: this one ends where the next room begins.
        TowerHouse z = new TowerHouse();
        square(z, 0, 0, 8);
        z.line(4, 0, 4, 8);
        z.find();
        z.door(0, 2, 4, 1);
        Checks.due(1, z.way(0, -1));
        Checks.due(-2, z.way(1, -1));
        z.door(0, 3, 5, 1);
        Checks.due(1, z.way(1, -1));
        Checks.due(2, z.way(0, 1));
        Checks.argument(() -> new TowerHouse().way(-1, -1));
    }

    private static void names() {
        TowerHouse x = Houses.fourPlanned();
        Checks.argument(() -> x.name(0, 1));
        x.find();
        Checks.due(0, x.name(0, 1000));
        Checks.due(1000, x.name(0, 7));
        Checks.due(0, x.name(3, 7));
        Checks.due(7, x.name(0, 0));
        Checks.due(0, x.nameOf(0));
        Checks.due(7, x.nameOf(3));
        Checks.argument(() -> x.name(0, -1));
        Checks.argument(() -> x.name(0, 1001));
        Checks.argument(() -> x.name(4, 1));
        Checks.argument(() -> x.name(-1, 1));
        Checks.argument(() -> x.nameOf(4));
        Checks.argument(() -> x.nameOf(-1));
        x.move(0, 0, 1);
        Checks.state(() -> x.name(0, 1));
        Checks.state(() -> x.nameOf(0));
    }

    private static void namesGoOn() {
        TowerHouse x = new TowerHouse();
        square(x, 10, 0, 4);
        x.find();
        x.name(0, 5);
        square(x, 0, 0, 4);
        x.find();
        Checks.due(0, x.nameOf(0));
        Checks.due(5, x.nameOf(1));
        // It is parted in two halves: the one with the lesser number has the name.
        x.line(10, 2, 14, 2);
        Checks.due(3, x.find());
        Checks.due(5, x.nameOf(1));
        Checks.due(0, x.nameOf(2));
        // Parted 1 to 3 the greater one has it.
        x.move(8, 0, -1);
        x.find();
        x.name(1, 0);
        x.name(2, 6);
        x.move(8, 10, 0);
        Checks.due(2, x.find());
        Checks.due(6, x.nameOf(1));
        // The name is gone with the space.
        x.move(0, 0, 8);
        Checks.due(1, x.find());
        Checks.due(0, x.nameOf(0));
        x.move(0, 0, -8);
        Checks.due(2, x.find());
        Checks.due(0, x.nameOf(1));
    }

    private static void namesContend() {
        TowerHouse x = new TowerHouse();
        square(x, 0, 0, 9);
        x.line(3, 0, 3, 9);
        x.line(6, 0, 6, 9);
        Checks.due(3, x.find());
        x.name(0, 1);
        x.name(1, 2);
        x.name(2, 3);
        x.move(4, 0, 9);
        x.move(5, 0, 9);
        Checks.due(1, x.find());
        Checks.due(1, x.nameOf(0));
        TowerHouse y = new TowerHouse();
        square(y, 0, 0, 9);
        y.line(3, 0, 3, 9);
        y.line(5, 0, 5, 9);
        y.find();
        y.name(0, 1);
        y.name(1, 2);
        y.name(2, 3);
        y.move(4, 0, 9);
        y.move(5, 0, 9);
        y.find();
        Checks.due(3, y.nameOf(0));
    }

    private static void oldFinding() {
        TowerHouse x = Houses.fourPlanned();
        x.find();
        Checks.due(-1, x.line(1, 0, 3, 0));
        Checks.due(false, x.move(0, 0, 4));
        x.door(0, 5, 6, 1);
        Checks.due(4, x.count(0));
        x.line(20, 20, 20, 21);
        Checks.state(() -> x.count(0));
        Checks.state(() -> x.sides(0, 0));
        Checks.state(() -> x.side(0, 0, 0, 0));
        Checks.state(() -> x.size(0, 0));
        Checks.state(() -> x.at(0, 0));
        Checks.state(() -> x.between(0, 1));
        Checks.state(() -> x.way(0, 1));
        Checks.state(() -> x.name(0, 1));
        Checks.state(() -> x.nameOf(0));
        Checks.argument(() -> x.nameOf(4));
        x.find();
        Checks.due(4, x.count(0));
        x.move(6, 1, 0);
        Checks.state(() -> x.count(0));
    }
}
