/** Promises 27 and 28: smoke, cells, seconds, ways out, and what is told of all. */
final class SmokeTest {
    private SmokeTest() {
    }

    static void all() {
        Checks.test("P27 fire: whether there was none, wrong calls", SmokeTest::fires);
        Checks.test("P27 fire: smoke spreads each 10 seconds, through doors", SmokeTest::spreads);
        Checks.test("P27 cell: walking numbers", SmokeTest::walkingNumbers);
        Checks.test("P28 pass: TIME, wrong calls, 6000 at most", SmokeTest::passes);
        Checks.test("P28 pass: the order of what happens in a second", SmokeTest::second);
        Checks.test("P28 pass: persons leave, one a second through a door of rate 1", SmokeTest::leaving);
        Checks.test("P28 pass: paces, doors at one place, smoke in the way", SmokeTest::paces);
        Checks.test("P28 told: all of it", SmokeTest::told);
        Checks.test("P27-28 before the house is built", SmokeTest::planned);
    }

    private static void fires() {
        TowerHouse x = Houses.four();
        Checks.due(true, x.fire(0, 0));
        Checks.due(false, x.fire(0, 0));
        Checks.due(true, x.fire(23, 23));
        Checks.due(false, x.fire(23, 23));
        Checks.due(2, x.told(3));
        Checks.due(1, x.cell(23, 23, 0));
        Checks.due(0, x.cell(23, 22, 0));
        Checks.argument(() -> x.fire(24, 0));
        Checks.argument(() -> x.fire(0, 24));
        Checks.argument(() -> x.fire(-1, 0));
        Checks.argument(() -> x.fire(0, -1));
    }

    private static void spreads() {
        TowerHouse x = Houses.one(2, 1);
        // Two cells, (2, 2) and (3, 2); a door below (2, 2).
        x.fire(3, 2);
        x.pass(9);
        Checks.due(1, x.told(3));
        x.pass(1);
        Checks.due(2, x.told(3));
        Checks.due(1, x.cell(2, 2, 0));
        x.pass(9);
        Checks.due(2, x.told(3));
        x.pass(1);
        Checks.due(3, x.told(3));
        Checks.due(1, x.cell(2, 1, 0));
        Checks.due(0, x.cell(3, 1, 0));
        x.pass(10);
        Checks.due(6, x.told(3));
        // From the outside it comes in, too.
        TowerHouse y = Houses.one(2, 1);
        y.fire(2, 1);
        y.pass(10);
        Checks.due(1, y.cell(2, 2, 0));
        Checks.due(0, y.cell(3, 2, 0));
        Checks.due(5, y.told(3));
        // Beyond the cells there is none.
        TowerHouse z = Houses.one(2, 1);
        z.fire(0, 0);
        z.pass(10);
        Checks.due(3, z.told(3));
    }

    private static void walkingNumbers() {
        TowerHouse x = Houses.one(4, 3);
        Checks.due(1, x.cell(2, 2, 1));
        Checks.due(2, x.cell(3, 2, 1));
        Checks.due(2, x.cell(2, 3, 1));
        Checks.due(6, x.cell(5, 4, 1));
        Checks.due(-1, x.cell(2, 1, 1));
        Checks.due(-1, x.cell(0, 0, 1));
        x.fire(3, 2);
        Checks.due(2, x.cell(3, 2, 1));
        Checks.argument(() -> x.cell(24, 0, 0));
        Checks.argument(() -> x.cell(0, -1, 0));
        Checks.argument(() -> x.cell(0, 0, 3));
        Checks.argument(() -> x.cell(0, 0, -1));
        // At the edge one goes beyond the cells; a room without a way has no numbers.
        TowerHouse y = new TowerHouse();
        PlanTest.square(y, 0, 0, 24);
        y.line(12, 0, 12, 24);
        y.door(1, 23, 24, 1);
        y.find();
        y.build(0);
        Checks.due(1, y.cell(23, 23, 1));
        Checks.due(24, y.cell(23, 0, 1));
        Checks.due(-1, y.cell(11, 23, 1));
    }

    private static void passes() {
        TowerHouse x = Houses.four();
        Checks.argument(() -> x.pass(0));
        Checks.argument(() -> x.pass(61));
        Checks.argument(() -> x.pass(-1));
        Checks.due(60, x.pass(60));
        Checks.due(61, x.pass(1));
        for (int k = 0; k < 98; k++) {
            x.pass(60);
        }
        Checks.due(5941, x.told(8));
        Checks.state(() -> x.pass(60));
        Checks.due(6000, x.pass(59));
        Checks.state(() -> x.pass(1));
        Checks.argument(() -> x.pass(0));
        Checks.due(6000, x.told(8));
    }

    private static void second() {
        // In second 10 smoke comes to (2, 2): the detector has it at once, the act goes, the point is there for the
        // program, and the person is caught before it leaves.
        TowerHouse x = Houses.one(2, 1);
        x.person(0, 5);
        x.card(0, 9);
        x.right(0, 0, 0, 1439, 0);
        Houses.write(x, "zone 0 needs 1 of 1;act 0 kind 4 rank 0 delay 0;act 1 kind 3 rank 0 delay 0;when 0 does 0;when 0 does 1;");
        x.matrix();
        x.block(0);
        x.numbers(0, 5, 0);
        x.block(0);
        x.numbers(1, 1, 0);
        x.block(1);
        x.numbers(2, 100, 0);
        x.bind(2, 0);
        x.pass(5);
        Checks.due(0, x.ask(0, 0, 0));
        Checks.due(0, x.where(0, 0));
        // The switch has the output in the second behind that in which it was reckoned; the act went then.
        Checks.row(Checks.of(2, 1, 1), Checks.of(x.event(0, 0), x.event(0, 1), x.event(0, 2)));
        Checks.due(1, x.out(0, 0));
        Checks.due(2, x.out(1, 0));
        x.fire(3, 2);
        x.pass(4);
        Checks.due(0, x.where(0, 0));
        x.pass(1);
        // PACE seconds ago it came in: it could go in this second, but smoke came first.
        Checks.due(10, x.where(0, 3));
        Checks.due(0, x.where(0, 4));
        Checks.due(20, 10 * x.told(3));
        Checks.due(0, x.told(1));
        TowerHouse y = Houses.one(2, 1);
        y.person(0, 4);
        y.card(0, 9);
        y.right(0, 0, 0, 1439, 0);
        Houses.write(y, "zone 0 needs 1 of 1;act 0 kind 4 rank 0 delay 0;when 0 does 0;");
        y.matrix();
        y.signal(1, 100);
        y.pass(5);
        y.ask(0, 0, 0);
        y.fire(3, 2);
        y.pass(3);
        Checks.due(0, y.where(0, 0));
        y.pass(1);
        Checks.row(Checks.of(1, -1, -1, -1, 1, 9), Facts.where(y, 0));
    }

    private static void leaving() {
        TowerHouse x = Houses.one(4, 1);
        x.right(0, 0, 0, 1439, 0);
        for (int k = 0; k < 3; k++) {
            x.person(0, 1);
            x.card(k, 9);
            Checks.due(0, x.ask(k, 0, 0));
        }
        Houses.leave(x, 1);
        x.pass(1);
        Checks.due(1, x.where(0, 0));
        Checks.due(0, x.where(1, 0));
        Checks.due(2, x.told(1));
        x.pass(1);
        Checks.due(1, x.where(1, 0));
        Checks.due(0, x.where(2, 0));
        Checks.due(2, x.where(1, 5));
        Checks.due(1, x.where(1, 4));
        x.signal(1, 0);
        x.pass(5);
        Checks.due(0, x.where(2, 0));
        x.signal(1, 100);
        x.pass(1);
        Checks.due(1, x.where(2, 0));
        Checks.due(8, x.where(2, 5));
        Checks.due(-1, x.where(2, 3));
        // Once out they do not go on.
        x.pass(5);
        Checks.due(1, x.where(2, 4));
    }

    private static void paces() {
        // Two rooms side by side, a door between them, one out of the first; those nearer to the way out go first.
        TowerHouse x = new TowerHouse();
        PlanTest.square(x, 2, 2, 2);
        PlanTest.square(x, 10, 2, 2);
        x.door(2, 0, 1, 1);
        x.door(3, 0, 1, 1);
        x.door(3, 0, 2, 1);
        x.find();
        Checks.due(2 + 1, x.build(0));
        x.right(0, 0, 0, 1439, 0);
        for (int k = 0; k < 4; k++) {
            x.person(0, 1 + k % 2);
            x.card(k, 9);
        }
        // Through (2, 2) to the left, and from (3, 2) and (3, 3) to the right.
        Checks.due(1, x.cell(2, 2, 1));
        Checks.due(1, x.cell(3, 2, 1));
        Checks.due(1, x.cell(3, 3, 1));
        Checks.due(2, x.cell(2, 3, 1));
        for (int k = 0; k < 4; k++) {
            Checks.due(0, x.ask(k, 1, 0));
        }
        Checks.due(4, x.cell(3, 2, 2));
        Houses.leave(x, 2);
        x.pass(1);
        // Of pace 1 persons 0 and 2 go by the first door and the second one at this place.
        Checks.due(2, x.where(0, 0));
        Checks.due(0, x.where(1, 0));
        Checks.due(2, x.where(2, 0));
        Checks.due(0, x.where(3, 0));
        x.fire(4, 2);
        x.pass(4);
        // Smoke is in the way, and there is no other way with a lesser number.
        Checks.due(0, x.where(1, 0));
        Checks.due(0, x.where(1, 4));
        x.pass(5);
        Checks.due(10, x.where(1, 3));
        // A person goes on after its pace, from cell to cell, to the right first.
        TowerHouse y = Houses.one(3, 3);
        y.right(0, 0, 0, 1439, 0);
        y.person(0, 3);
        y.card(0, 9);
        y.ask(0, 0, 0);
        y.pass(10);
        Houses.leave(y, 1);
        y.pass(1);
        Checks.row(Checks.of(1, -1, -1, -1, 1, 11), Facts.where(y, 0));
    }

    private static void told() {
        TowerHouse x = Houses.four();
        x.person(0, 1);
        x.card(0, 9);
        x.right(0, 1, 0, 1439, 0);
        long[] want = {6, 0, 0, 0, 0, 0, 0, 0, 0};
        Checks.row(want, all(x));
        x.ask(0, 0, 0);
        x.fire(20, 20);
        x.call(0, 1);
        x.call(0, 1);
        Houses.write(x, "zone 0 needs 1 of 4;zone 1 needs 1 of 5;zone 2 needs 1 of 6;"
            + "act 0 kind 0 rank 0 delay 0;act 1 kind 1 rank 0 delay 0;act 2 kind 5 rank 0 delay 0;when 0 does 0;when 1 does 1;when 2 does 2;");
        x.matrix();
        x.signal(4, 100);
        x.pass(2);
        Checks.row(Checks.of(6, 1, 1, 1, 2, 1, 0, 0, 2), all(x));
        x.signal(4, 0);
        x.signal(5, 100);
        x.signal(6, 100);
        x.pass(1);
        Checks.row(Checks.of(6, 1, 2, 1, 2, 0, 1, 0, 3), all(x));
        x.fire(1, 0);
        x.done(1);
        x.pass(1);
        Checks.row(Checks.of(6, 0, 2, 2, 1, 0, 1, 0, 4), all(x));
        TowerHouse y = Houses.one(2, 2);
        Houses.leave(y, 1);
        y.pass(1);
        Checks.due(1, y.told(7));
        Checks.argument(() -> x.told(9));
        Checks.argument(() -> x.told(-1));
    }

    private static long[] all(TowerHouse x) {
        long[] all = new long[9];
        for (int what = 0; what < 9; what++) {
            all[what] = x.told(what);
        }
        return all;
    }

    private static void planned() {
        TowerHouse x = Houses.fourPlanned();
        Checks.state(() -> x.fire(0, 0));
        Checks.argument(() -> x.fire(24, 0));
        Checks.state(() -> x.cell(0, 0, 0));
        Checks.argument(() -> x.cell(0, 0, 3));
        Checks.state(() -> x.pass(1));
        Checks.argument(() -> x.pass(0));
        Checks.state(() -> x.told(0));
        Checks.argument(() -> x.told(9));
    }
}
