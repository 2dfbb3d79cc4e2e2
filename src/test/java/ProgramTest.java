/** Promises 18 to 21: the block program. */
final class ProgramTest {
    private static final int MIN = Integer.MIN_VALUE;
    private static final int MAX = Integer.MAX_VALUE;

    private ProgramTest() {
    }

    static void all() {
        Checks.test("P18 block, wire, numbers: what was, limits, wrong calls", ProgramTest::blocks);
        Checks.test("P19 row, safe, hand: what was, wrong calls", ProgramTest::settings);
        Checks.test("P19 hand: it reckons first, and has the hand's value", ProgramTest::hand);
        Checks.test("P19 safe: failures, state stays", ProgramTest::safe);
        Checks.test("P20 bind: switches get outputs", ProgramTest::bind);
        Checks.test("P20 point and pointAt", ProgramTest::points);
        Checks.test("P21 order: least first, rings, delays", ProgramTest::order);
        Checks.test("P21 out: plain kinds", ProgramTest::plainKinds);
        Checks.test("P21 out: inputs that are not wired", ProgramTest::unwired);
        Checks.test("P21 out: ROW and POINT", ProgramTest::rowAndPoint);
        Checks.test("P21 out: DELAY", ProgramTest::delays);
        Checks.test("P21 out: RAMP and HOLD", ProgramTest::rampAndHold);
        Checks.test("P21 out: COUNT, LATCH, SUM", ProgramTest::countLatchSum);
        Checks.test("P21 out: CLOCK", ProgramTest::clock);
        Checks.test("P21 out: PULSE, LIMIT, SINCE", ProgramTest::pulseLimitSince);
        Checks.test("P21 failed: kinds, and the rest behind 20000", ProgramTest::failures);
        Checks.test("P18-21 before the house is built", ProgramTest::planned);
    }

    private static void blocks() {
        TowerHouse x = Houses.four();
        Checks.argument(() -> x.wire(0, 0, 0));
        for (int k = 0; k < 40; k++) {
            Checks.due(k, x.block(k % 26));
        }
        Checks.state(() -> x.block(0));
        Checks.argument(() -> x.block(26));
        Checks.argument(() -> x.block(-1));
        Checks.due(-1, x.wire(3, 2, 39));
        Checks.due(39, x.wire(3, 2, 3));
        Checks.due(3, x.wire(3, 2, -1));
        Checks.due(-1, x.wire(3, 2, 0));
        Checks.due(-1, x.wire(3, 0, 0));
        Checks.argument(() -> x.wire(40, 0, 0));
        Checks.argument(() -> x.wire(-1, 0, 0));
        Checks.argument(() -> x.wire(0, 3, 0));
        Checks.argument(() -> x.wire(0, -1, 0));
        Checks.argument(() -> x.wire(0, 0, 40));
        Checks.argument(() -> x.wire(0, 0, -2));
        Checks.argument(() -> x.numbers(40, 0, 0));
        Checks.argument(() -> x.numbers(-1, 0, 0));
        x.numbers(1, MIN, MAX);
    }

    private static void settings() {
        TowerHouse x = Houses.four();
        x.block(15);
        x.block(1);
        Checks.due(0, x.row(0, 7, MIN));
        Checks.due(MIN, x.row(0, 7, 4));
        Checks.due(0, x.row(0, 0, 5));
        Checks.state(() -> x.row(1, 0, 0));
        Checks.argument(() -> x.row(1, 8, 0));
        Checks.argument(() -> x.row(0, -1, 0));
        Checks.argument(() -> x.row(2, 0, 0));
        Checks.argument(() -> x.row(-1, 0, 0));
        Checks.due(0, x.safe(1, MAX));
        Checks.due(MAX, x.safe(1, -1));
        Checks.argument(() -> x.safe(2, 0));
        Checks.argument(() -> x.safe(-1, 0));
        Checks.due(false, x.hand(1, true, 5));
        Checks.due(true, x.hand(1, true, 6));
        Checks.due(true, x.hand(1, false, 6));
        Checks.due(false, x.hand(1, false, 6));
        Checks.argument(() -> x.hand(2, true, 0));
        Checks.argument(() -> x.hand(-1, true, 0));
    }

    private static void hand() {
        TowerHouse x = Houses.four();
        x.block(1);
        x.numbers(0, 3, 0);
        x.block(24);
        x.wire(1, 0, 0);
        x.block(1);
        x.wire(1, 1, 2);
        x.hand(1, true, 77);
        Checks.due(0, x.out(1, 0));
        x.pass(1);
        Checks.due(77, x.out(1, 0));
        Checks.due(3, x.out(1, 1));
        x.hand(1, true, 78);
        Checks.due(77, x.out(1, 0));
        x.pass(1);
        Checks.due(78, x.out(1, 0));
        Checks.due(6, x.out(1, 1));
        x.wire(1, 0, -1);
        x.safe(1, 5);
        x.pass(1);
        Checks.due(78, x.out(1, 0));
        Checks.due(1, x.failed(3));
        x.hand(1, false, 0);
        x.pass(1);
        Checks.due(5, x.out(1, 0));
        Checks.due(6, x.out(1, 1));
        x.wire(1, 0, 0);
        x.pass(1);
        Checks.due(9, x.out(1, 0));
    }

    private static void safe() {
        TowerHouse x = Houses.four();
        x.block(5);
        x.block(1);
        x.block(1);
        x.wire(0, 0, 1);
        x.wire(0, 1, 2);
        x.numbers(1, 7, 0);
        x.safe(0, -4);
        Checks.due(0, x.out(0, 0));
        x.pass(1);
        Checks.due(-4, x.out(0, 0));
        Checks.due(1, x.failed(1));
        x.numbers(2, 2, 0);
        x.pass(1);
        Checks.due(3, x.out(0, 0));
        // A CHOICE looks at all three inputs first.
        x.block(14);
        x.safe(3, 8);
        x.wire(3, 0, 1);
        x.wire(3, 1, 2);
        x.pass(1);
        Checks.due(8, x.out(3, 0));
        x.wire(3, 2, 1);
        x.pass(1);
        Checks.due(2, x.out(3, 0));
    }

    private static void bind() {
        TowerHouse x = Houses.four();
        x.block(1);
        x.block(1);
        Checks.due(-1, x.bind(0, 9));
        Checks.due(9, x.bind(0, 0));
        Checks.due(0, x.bind(0, -1));
        Checks.due(-1, x.bind(0, 3));
        Checks.argument(() -> x.bind(0, 10));
        Checks.argument(() -> x.bind(0, -2));
        Checks.argument(() -> x.bind(2, 0));
        Checks.argument(() -> x.bind(-1, 0));
        x.numbers(0, 55, 0);
        x.signal(7, 20);
        x.pass(1);
        // The output that it had when the second began.
        Checks.due(0, x.signal(7, 20));
        x.pass(1);
        Checks.due(55, x.signal(7, 0));
        x.numbers(0, 1000, 0);
        x.pass(2);
        Checks.due(100, x.signal(7, 0));
        x.numbers(0, -7, 0);
        x.pass(2);
        Checks.due(0, x.signal(7, 0));
        // Of several blocks the last one's.
        x.numbers(0, 11, 0);
        x.numbers(1, 22, 0);
        x.bind(1, 3);
        x.pass(2);
        Checks.due(22, x.signal(7, 0));
        x.bind(1, -1);
        x.pass(1);
        Checks.due(11, x.signal(7, 0));
        x.bind(0, -1);
        x.pass(1);
        Checks.due(0, x.signal(7, 0));
        // A block that is not bound is none of the points' business.
        for (int k = 0; k < 14; k++) {
            Checks.due(0, x.signal(k, 0));
        }
    }

    private static void points() {
        TowerHouse x = Houses.four();
        Checks.due(0, x.point(4, MIN));
        Checks.due(MIN, x.point(4, 8));
        Checks.due(8, x.pointAt(4));
        Checks.due(0, x.point(9, 3));
        Checks.argument(() -> x.point(3, 0));
        Checks.argument(() -> x.point(10, 0));
        Checks.argument(() -> x.pointAt(10));
        Checks.argument(() -> x.pointAt(-1));
        x.person(0, 1);
        x.card(0, 9);
        x.right(0, 1, 0, 1439, 0);
        x.ask(0, 0, 0);
        x.fire(20, 20);
        x.fire(21, 21);
        x.call(1, 2);
        x.call(2, 3);
        x.call(3, 4);
        Houses.write(x, "zone 0 needs 1 of 4;act 0 kind 5 rank 0 delay 0;act 1 kind 5 rank 0 delay 0;when 0 does 0;when 0 does 1;");
        x.matrix();
        x.signal(4, 50);
        Checks.due(0, x.pointAt(0) + x.pointAt(1) + x.pointAt(2) + x.pointAt(3));
        x.pass(1);
        Checks.due(1, x.pointAt(0));
        Checks.due(2, x.pointAt(1));
        Checks.due(2, x.pointAt(2));
        Checks.due(3, x.pointAt(3));
        x.done(0);
        Checks.due(3, x.pointAt(3));
        // The program points are there before the program reckons, and persons are caught behind it.
        x.block(0);
        x.fire(1, 0);
        x.pass(1);
        Checks.due(1, x.out(0, 0));
        Checks.due(0, x.told(1));
        Checks.due(1, x.pointAt(0));
        x.pass(1);
        Checks.due(0, x.out(0, 0));
    }

    private static void order() {
        TowerHouse x = Houses.four();
        Checks.due(0, x.order());
        x.block(2);
        x.block(13);
        x.block(1);
        x.wire(0, 0, 1);
        x.wire(0, 1, 2);
        x.wire(1, 0, 2);
        Checks.due(3, x.order());
        Checks.row(Checks.of(2, 1, 0), places(x, 3));
        // Inputs that the kind does not name ask for nothing.
        x.wire(2, 0, 0);
        x.wire(1, 1, 0);
        Checks.due(3, x.order());
        // A ring: what can come comes, the others stand behind.
        x.block(1);
        x.wire(1, 0, 0);
        Checks.due(2, x.order());
        Checks.row(Checks.of(2, 3, 0, 1), places(x, 4));
        x.numbers(2, 9, 0);
        x.pass(1);
        Checks.due(0, x.out(2, 0));
        // A DELAY comes behind none, so it opens the ring.
        x.block(16);
        x.wire(4, 0, 0);
        x.wire(1, 0, 4);
        Checks.due(5, x.order());
        Checks.row(Checks.of(4, 3, 0, 1, 2), places(x, 5));
        x.pass(1);
        Checks.due(1, x.out(1, 0));
        Checks.due(10, x.out(0, 0));
        Checks.due(0, x.out(4, 0));
        Checks.due(10, x.out(4, 1));
        x.pass(1);
        Checks.due(10, x.out(4, 0));
        Checks.due(9, x.out(0, 0));
        // A block that is wired to itself is a ring, but for a DELAY.
        x.wire(4, 0, 4);
        Checks.due(5, x.order());
        x.wire(0, 0, 0);
        Checks.due(4, x.order());
        Checks.due(4, x.out(0, 3));
        Checks.argument(() -> x.out(5, 0));
        Checks.argument(() -> x.out(-1, 0));
        Checks.argument(() -> x.out(0, 4));
        Checks.argument(() -> x.out(0, -1));
    }

    private static long[] places(TowerHouse x, int blocks) {
        long[] all = new long[blocks];
        for (int k = 0; k < blocks; k++) {
            all[k] = x.out(k, 3);
        }
        return all;
    }

    /** Block 0 of a kind, its inputs wired to three NUMBERS; its safe value is 4711. */
    static TowerHouse wired(int kind, int p, int q) {
        TowerHouse x = Houses.four();
        x.block(kind);
        x.numbers(0, p, q);
        for (int k = 0; k < 3; k++) {
            x.block(1);
            x.wire(0, k, k + 1);
        }
        x.safe(0, 4711);
        return x;
    }

    private static int next(TowerHouse x, int a, int b, int c) {
        x.numbers(1, a, 0);
        x.numbers(2, b, 0);
        x.numbers(3, c, 0);
        x.pass(1);
        return x.out(0, 0);
    }

    private static void plain(int kind, int want, int a, int b) {
        Checks.due(want, next(wired(kind, 0, 0), a, b, 99));
    }

    private static void plainKinds() {
        plain(2, MIN, MAX, 1);
        plain(3, MAX, MIN, 1);
        plain(4, -6, 2, -3);
        plain(4, 0, 65536, 65536);
        plain(5, -3, 7, -2);
        plain(5, MIN, MIN, -1);
        plain(5, 4711, 1, 0);
        plain(6, 1, 7, -2);
        plain(6, -1, -7, 2);
        plain(6, 0, MIN, -1);
        plain(6, 4711, 1, 0);
        plain(7, -5, 3, -5);
        plain(8, 3, 3, -5);
        plain(9, 1, MIN, MAX);
        plain(9, 0, 2, 2);
        plain(10, 1, 2, 2);
        plain(10, 0, 2, 3);
        plain(11, 1, 2, -1);
        plain(11, 0, 2, 0);
        plain(11, 0, 0, 2);
        plain(12, 1, 0, 2);
        plain(12, 1, 2, 0);
        plain(12, 0, 0, 0);
        plain(13, 1, 0, 7);
        plain(13, 0, -1, 7);
        plain(14, 7, -1, 7);
        plain(14, 99, 0, 7);
        Checks.due(-12, next(wired(1, -12, 5), 1, 2, 3));
    }

    private static void unwired() {
        int[] needs = {0, 0, 2, 2, 2, 2, 2, 2, 2, 2, 2, 2, 2, 1, 3, 1, 1, 1, 2, 2, 0, 1, 1, 2, 2, 1};
        for (int kind = 0; kind < needs.length; kind++) {
            for (int input = 0; input < 3; input++) {
                TowerHouse x = wired(kind, 1, 1);
                next(x, 1, 1, 1);
                int before = x.failed(0);
                Checks.due(0, before);
                x.wire(0, input, -1);
                long state = x.out(0, 1);
                x.pass(1);
                Checks.due(input < needs[kind] ? 1 : 0, x.failed(0));
                Checks.due(input < needs[kind] ? 1 : 0, x.failed(3));
                if (input < needs[kind]) {
                    Checks.due(4711, x.out(0, 0));
                    Checks.due(state, x.out(0, 1));
                }
            }
        }
    }

    private static void rowAndPoint() {
        TowerHouse x = wired(15, 0, 0);
        for (int k = 0; k < 8; k++) {
            x.row(0, k, 10 * k - 3);
        }
        Checks.due(-3, next(x, 0, 0, 0));
        Checks.due(67, next(x, 7, 0, 0));
        Checks.due(4711, next(x, 8, 0, 0));
        Checks.due(4711, next(x, -1, 0, 0));
        Checks.due(2, x.failed(2));
        Checks.due(2, x.failed(0));
        TowerHouse y = wired(0, 9, 0);
        y.point(9, 5);
        Checks.due(5, next(y, 0, 0, 0));
        y.numbers(0, 10, 0);
        Checks.due(4711, next(y, 0, 0, 0));
        y.numbers(0, -1, 0);
        Checks.due(4711, next(y, 0, 0, 0));
        Checks.due(2, y.failed(2));
    }

    private static void delays() {
        TowerHouse x = wired(16, 0, 0);
        Checks.due(0, next(x, 5, 0, 0));
        Checks.due(5, next(x, 6, 0, 0));
        Checks.due(6, x.out(0, 1));
        Checks.due(6, next(x, 7, 0, 0));
        // In hand: its state goes on.
        x.hand(0, true, 50);
        Checks.due(50, next(x, 8, 0, 0));
        Checks.due(8, x.out(0, 1));
        x.hand(0, false, 0);
        Checks.due(8, next(x, 9, 0, 0));
        // Not wired: it fails once, at last; until then its output is its state.
        x.block(13);
        x.wire(4, 0, 0);
        x.wire(0, 0, -1);
        x.pass(1);
        Checks.due(1, x.failed(3));
        Checks.due(4711, x.out(0, 0));
        Checks.due(9, x.out(0, 1));
        Checks.due(0, x.out(4, 0));
        x.hand(0, true, 3);
        x.pass(1);
        Checks.due(3, x.out(0, 0));
        Checks.due(2, x.failed(3));
        // In the order of numbers: 1 takes the output that 0 had, 2 that which 1 has behind its failing.
        TowerHouse y = Houses.four();
        y.block(16);
        y.block(16);
        y.block(16);
        y.wire(0, 0, 1);
        y.wire(2, 0, 1);
        y.safe(1, 70);
        y.pass(1);
        Checks.due(0, y.out(0, 1));
        Checks.due(70, y.out(2, 1));
        y.pass(1);
        Checks.due(0, y.out(0, 1));
        Checks.due(70, y.out(2, 0));
    }

    private static void rampAndHold() {
        TowerHouse x = wired(17, 3, 0);
        Checks.due(3, next(x, 10, 0, 0));
        Checks.due(6, next(x, 10, 0, 0));
        Checks.due(9, next(x, 10, 0, 0));
        Checks.due(10, next(x, 10, 0, 0));
        Checks.due(7, next(x, -10, 0, 0));
        Checks.due(4, next(x, 4, 0, 0));
        x.numbers(0, -3, 0);
        Checks.due(4, next(x, 40, 0, 0));
        x.numbers(0, MAX, 0);
        Checks.due(40, next(x, 40, 0, 0));
        // The output before, whether it was reckoned, the hand's or SAFE.
        x.numbers(0, 3, 0);
        x.hand(0, true, 100);
        x.pass(1);
        x.hand(0, false, 0);
        Checks.due(97, next(x, 0, 0, 0));
        x.wire(0, 0, -1);
        x.pass(1);
        Checks.due(4711, x.out(0, 0));
        x.wire(0, 0, 1);
        Checks.due(4708, next(x, 0, 0, 0));
        // As far apart as can be.
        TowerHouse y = wired(17, MAX, 0);
        y.hand(0, true, MIN);
        y.pass(1);
        y.hand(0, false, 0);
        Checks.due(-1, next(y, MAX, 0, 0));
        Checks.due(MAX - 1, next(y, MAX, 0, 0));
        Checks.due(MAX, next(y, MAX, 0, 0));
        Checks.due(0, next(y, MIN, 0, 0));
        Checks.due(-MAX, next(y, MIN, 0, 0));
        Checks.due(MIN, next(y, MIN, 0, 0));
        TowerHouse z = wired(23, 0, 0);
        Checks.due(5, next(z, 5, 0, 0));
        Checks.due(5, next(z, 6, 1, 0));
        z.hand(0, true, 30);
        z.pass(1);
        z.hand(0, false, 0);
        Checks.due(30, next(z, 6, -1, 0));
        Checks.due(6, next(z, 6, 0, 0));
    }

    private static void countLatchSum() {
        TowerHouse x = wired(18, 0, 0);
        Checks.due(1, next(x, 5, 0, 0));
        Checks.due(5, x.out(0, 2));
        Checks.due(1, next(x, 6, 0, 0));
        Checks.due(6, x.out(0, 2));
        Checks.due(1, next(x, 0, 0, 0));
        Checks.due(2, next(x, -1, 0, 0));
        Checks.due(0, next(x, 0, 1, 0));
        Checks.due(0, next(x, 1, 1, 0));
        Checks.due(0, next(x, 1, 0, 0));
        Checks.due(0, x.out(0, 1));
        TowerHouse y = wired(19, 0, 0);
        Checks.due(0, next(y, 0, 0, 0));
        Checks.due(1, next(y, 7, 0, 0));
        Checks.due(1, y.out(0, 1));
        Checks.due(1, next(y, 0, 0, 0));
        Checks.due(1, next(y, 7, 3, 0));
        Checks.due(0, next(y, 0, 3, 0));
        Checks.due(0, next(y, 0, 0, 0));
        TowerHouse z = wired(24, 0, 0);
        Checks.due(MAX, next(z, MAX, 0, 0));
        Checks.due(MIN, next(z, 1, 0, 0));
        Checks.due(MIN - 5, next(z, -5, 0, 0));
        Checks.due(0, next(z, 9, 1, 0));
        Checks.due(9, next(z, 9, 0, 0));
        Checks.due(9, z.out(0, 1));
    }

    private static int clockAt(int minute, int p, int q) {
        TowerHouse x = wired(20, p, q);
        Houses.pass(x, 60 * minute);
        return x.out(0, 0);
    }

    private static void clock() {
        Checks.due(0, clockAt(1, 2, 4));
        Checks.due(1, clockAt(2, 2, 4));
        Checks.due(1, clockAt(3, 2, 4));
        Checks.due(0, clockAt(4, 2, 4));
        Checks.due(0, clockAt(3, 3, 3));
        Checks.due(1, clockAt(2, 1000, 3));
        Checks.due(0, clockAt(3, 1000, 3));
        Checks.due(1, clockAt(3, 3, 2));
        Checks.due(1, clockAt(1, MIN, MAX));
        Checks.due(0, clockAt(1, MAX, MIN));
    }

    private static void pulseLimitSince() {
        TowerHouse x = wired(21, 3, 0);
        Checks.due(0, next(x, 0, 0, 0));
        Checks.due(1, next(x, 1, 0, 0));
        Checks.due(2, x.out(0, 1));
        Checks.due(1, x.out(0, 2));
        Checks.due(1, next(x, 1, 0, 0));
        Checks.due(1, next(x, 0, 0, 0));
        Checks.due(0, next(x, 0, 0, 0));
        Checks.due(1, next(x, 5, 0, 0));
        Checks.due(1, next(x, 0, 0, 0));
        Checks.due(1, next(x, -5, 0, 0));
        Checks.due(2, x.out(0, 1));
        x.numbers(0, -2, 0);
        Checks.due(1, next(x, 0, 0, 0));
        Checks.due(0, next(x, 1, 0, 0));
        Checks.due(-2, x.out(0, 1));
        TowerHouse y = wired(22, -5, 5);
        Checks.due(-5, next(y, -6, 0, 0));
        Checks.due(-5, next(y, -5, 0, 0));
        Checks.due(5, next(y, 6, 0, 0));
        Checks.due(3, next(y, 3, 0, 0));
        y.numbers(0, 5, -5);
        Checks.due(5, next(y, 4, 0, 0));
        Checks.due(-5, next(y, 5, 0, 0));
        TowerHouse z = wired(25, 2, 0);
        Checks.due(1, next(z, 9, 0, 0));
        Checks.due(2, next(z, 9, 0, 0));
        Checks.due(2, next(z, 9, 0, 0));
        Checks.due(0, next(z, 0, 0, 0));
        z.numbers(0, -4, 0);
        Checks.due(-4, next(z, 0, 0, 0));
        Checks.due(-4, next(z, 1, 0, 0));
        z.numbers(0, 10, 0);
        Checks.due(-3, next(z, 1, 0, 0));
        Checks.due(0, next(z, 0, 0, 0));
        Checks.due(0, z.out(0, 1));
    }

    private static void failures() {
        TowerHouse x = Houses.four();
        for (int k = 0; k < 39; k++) {
            x.block(2);
        }
        x.block(24);
        x.wire(39, 0, 39);
        Checks.due(39, x.order());
        x.pass(1);
        Checks.due(0, x.failed(0));
        x.wire(39, 0, -1);
        // 40 failures a second: 500 seconds make 20000.
        Houses.pass(x, 499);
        Checks.due(19960, x.failed(3));
        x.safe(0, 8);
        x.pass(1);
        Checks.due(20000, x.failed(0));
        Checks.due(8, x.out(0, 0));
        x.safe(0, 9);
        x.bind(0, 2);
        x.hand(1, true, 5);
        x.pass(2);
        Checks.due(20000, x.failed(0));
        Checks.due(8, x.out(0, 0));
        Checks.due(0, x.out(1, 0));
        Checks.due(8, x.signal(6, 0));
        Checks.due(40, x.order());
        Checks.due(0, x.failed(1));
        Checks.due(0, x.failed(2));
        Checks.argument(() -> x.failed(4));
        Checks.argument(() -> x.failed(-1));
    }

    private static void planned() {
        TowerHouse x = Houses.fourPlanned();
        Checks.state(() -> x.block(0));
        Checks.argument(() -> x.block(26));
        Checks.argument(() -> x.wire(0, 0, 0));
        Checks.argument(() -> x.numbers(0, 0, 0));
        Checks.argument(() -> x.row(0, 0, 0));
        Checks.argument(() -> x.safe(0, 0));
        Checks.argument(() -> x.hand(0, true, 0));
        Checks.argument(() -> x.bind(0, 0));
        Checks.state(() -> x.point(4, 0));
        Checks.argument(() -> x.point(3, 0));
        Checks.state(() -> x.pointAt(0));
        Checks.argument(() -> x.pointAt(10));
        Checks.state(x::order);
        Checks.argument(() -> x.out(0, 0));
        Checks.state(() -> x.failed(0));
        Checks.argument(() -> x.failed(4));
    }
}
