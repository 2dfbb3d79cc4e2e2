/** The edges that promises 18 to 21 name of the block program, a test for each of their sentences. */
final class ProgramEdgeTest {
    private static final int MIN = Integer.MIN_VALUE;
    private static final int MAX = Integer.MAX_VALUE;
    private static final int SAFE = 4711;
    private static final int[] ANY = {0, 1, -1, 7, MIN, MAX};

    private ProgramEdgeTest() {
    }

    static void all() {
        Checks.test("P18 edge: block, 'a kind (0 .. 25)', 'also if there are 40'", ProgramEdgeTest::fortyBlocks);
        Checks.test("P18 edge: wire, '(also to itself), or to none (NONE): to which it was'", ProgramEdgeTest::wires);
        Checks.test("P18 edge: numbers, any two of 32 bits, 0 at first", ProgramEdgeTest::numbers);
        Checks.test("P19 edge: row, '(0 .. 7)', 'also if it is no ROW'", ProgramEdgeTest::rows);
        Checks.test("P19 edge: safe, hand: what was", ProgramEdgeTest::settings);
        Checks.test("P19 edge: hand, 'it reckons first, and may fail, all the same'", ProgramEdgeTest::hands);
        Checks.test("P20 edge: bind, '0 below 0, 100 above 100', 'of several blocks the last one's'", ProgramEdgeTest::binds);
        Checks.test("P20 edge: point 4 .. 9, pointAt 0 .. 9", ProgramEdgeTest::points);
        Checks.test("P21 edge: order, 'of those that may come next the least'", ProgramEdgeTest::orders);
        Checks.test("P21 edge: order, 'If not all can come there is a RING, and nothing is reckoned'", ProgramEdgeTest::rings);
        Checks.test("P21 edge: out, 'behind all that come those that cannot, by their numbers'", ProgramEdgeTest::places);
        Checks.test("P21 edge: VALUES 'wrapping', 'to 0', 'ZERO if b is 0'", ProgramEdgeTest::reckoned);
        Checks.test("P21 edge: 9 .. 14, 0 and not 0", ProgramEdgeTest::truths);
        Checks.test("P21 edge: POINT and ROW, 'BAD if there is none such'", ProgramEdgeTest::bad);
        Checks.test("P21 edge: 'Inputs that its kind names must be wired (else NOTHING)'", ProgramEdgeTest::nothing);
        Checks.test("P21 edge: RAMP, 'at a if it is not further away than p, reckoned in 64 bits; p below 0 counts as 0'", ProgramEdgeTest::ramps);
        Checks.test("P21 edge: COUNT, 'if a is not 0 and the second one is 0; with b not 0 it becomes 0 instead'", ProgramEdgeTest::counts);
        Checks.test("P21 edge: LATCH, '1 if a is not 0, else 0 if b is not 0, else as before'", ProgramEdgeTest::latches);
        Checks.test("P21 edge: CLOCK, '1 if p <= m < q', 'with p > q: if m >= p or m < q'", ProgramEdgeTest::clocks);
        Checks.test("P21 edge: PULSE, '1 while the first value is above 0'", ProgramEdgeTest::pulses);
        Checks.test("P21 edge: LIMIT, HOLD, SUM", ProgramEdgeTest::limitHoldSum);
        Checks.test("P21 edge: SINCE, 'but p if that would be greater than p (also below 0)'", ProgramEdgeTest::sinces);
        Checks.test("P21 edge: DELAY, 'takes a behind all others, in the order of numbers'", ProgramEdgeTest::delays);
        Checks.test("P21 edge: failed, 'of kind 1, 2, 3, or (0) all'", ProgramEdgeTest::failures);
        Checks.test("P21 edge: 'Behind a second with which there were 20000 failures or more the program rests for good'", ProgramEdgeTest::rests);
    }

    /** The output of block 0 with these inputs, a second later. */
    private static int next(TowerHouse x, int a, int b) {
        x.numbers(1, a, 0);
        x.numbers(2, b, 0);
        x.pass(1);
        return x.out(0, 0);
    }

    private static void state(TowerHouse x, int first, int second) {
        Checks.row(Checks.of(first, second), Checks.of(x.out(0, 1), x.out(0, 2)));
    }

    private static void fortyBlocks() {
        TowerHouse x = Houses.four();
        int[] noKind = {-1, 26, MIN, MAX};
        for (int v : noKind) {
            Checks.argument(() -> x.block(v));
        }
        Checks.argument(() -> x.out(0, 0));
        Checks.due(0, x.block(0));
        Checks.due(1, x.block(25));
        for (int k = 2; k < 40; k++) {
            Checks.argument(() -> x.safe(39, 0));
            Checks.due(k, x.block(1));
        }
        Checks.state(() -> x.block(1));
        for (int v : noKind) {
            Checks.argument(() -> x.block(v));
        }
        Checks.due(40, x.order());
        x.numbers(39, 5, 0);
        x.pass(1);
        Checks.due(5, x.out(39, 0));
        Checks.due(39, x.out(39, 3));
        int[] none = {-1, 40, MIN, MAX};
        for (int v : none) {
            Checks.argument(() -> x.wire(v, 0, 0));
            Checks.argument(() -> x.numbers(v, 0, 0));
            Checks.argument(() -> x.row(v, 0, 0));
            Checks.argument(() -> x.safe(v, 0));
            Checks.argument(() -> x.hand(v, true, 0));
            Checks.argument(() -> x.bind(v, 0));
            Checks.argument(() -> x.out(v, 0));
        }
    }

    private static void wires() {
        TowerHouse x = Houses.four();
        x.block(2);
        x.block(1);
        int[] noInput = {-1, 3, MIN, MAX};
        for (int v : noInput) {
            Checks.argument(() -> x.wire(0, v, 0));
        }
        int[] noBlock = {-2, 2, MIN, MAX};
        for (int v : noBlock) {
            Checks.argument(() -> x.wire(0, 0, v));
        }
        for (int input = 0; input < 3; input++) {
            Checks.due(-1, x.wire(0, input, -1));
            Checks.due(-1, x.wire(0, input, 0));
            Checks.due(0, x.wire(0, input, 1));
            Checks.due(1, x.wire(0, input, 1));
            Checks.due(1, x.wire(0, input, -1));
        }
        // A block of a kind without inputs may be wired as well.
        Checks.due(-1, x.wire(1, 2, 1));
        Checks.due(1, x.wire(1, 2, 0));
    }

    private static void numbers() {
        for (int p : ANY) {
            TowerHouse x = Houses.four();
            x.block(1);
            x.pass(1);
            Checks.due(0, x.out(0, 0));
            x.numbers(0, p, 3);
            Checks.due(0, x.out(0, 0));
            x.pass(1);
            Checks.due(p, x.out(0, 0));
            x.numbers(0, 3, p);
            x.pass(1);
            Checks.due(3, x.out(0, 0));
        }
    }

    private static void rows() {
        TowerHouse x = Houses.four();
        x.block(15);
        x.block(14);
        x.block(16);
        int[] noPlace = {-1, 8, MIN, MAX};
        for (int v : noPlace) {
            Checks.argument(() -> x.row(0, v, 0));
            // The wrong number comes before what the block is.
            Checks.argument(() -> x.row(1, v, 0));
        }
        Checks.state(() -> x.row(1, 0, 0));
        Checks.state(() -> x.row(2, 7, 0));
        for (int k = 0; k < 8; k++) {
            Checks.due(0, x.row(0, k, MAX - k));
            Checks.due(MAX - k, x.row(0, k, MIN + k));
        }
        Checks.due(MIN, x.row(0, 0, 0));
        Checks.due(MIN + 7, x.row(0, 7, 0));
    }

    private static void settings() {
        TowerHouse x = Houses.four();
        x.block(1);
        int before = 0;
        for (int v : ANY) {
            Checks.due(before, x.safe(0, v));
            before = v;
        }
        Checks.due(false, x.hand(0, false, 9));
        Checks.due(false, x.hand(0, true, MIN));
        Checks.due(true, x.hand(0, true, MAX));
        Checks.due(0, x.out(0, 0));
        x.pass(1);
        Checks.due(MAX, x.out(0, 0));
        Checks.due(true, x.hand(0, false, 5));
        Checks.due(MAX, x.out(0, 0));
        x.pass(1);
        Checks.due(0, x.out(0, 0));
    }

    private static void hands() {
        // It fails each second, and its state goes on, in hand as well.
        TowerHouse x = ProgramTest.wired(5, 0, 0);
        x.hand(0, true, 8);
        Checks.due(8, next(x, 1, 0));
        Checks.due(1, x.failed(1));
        Checks.due(8, next(x, 1, 1));
        Checks.due(1, x.failed(1));
        TowerHouse y = ProgramTest.wired(18, 0, 0);
        y.hand(0, true, -5);
        Checks.due(-5, next(y, 1, 0));
        state(y, 1, 1);
        Checks.due(-5, next(y, 0, 0));
        Checks.due(-5, next(y, 3, 0));
        state(y, 2, 3);
        y.hand(0, false, 0);
        Checks.due(2, next(y, 3, 0));
        // Those that are wired to it have the hand's value in the same second.
        TowerHouse z = ProgramTest.wired(2, 0, 0);
        z.hand(1, true, 100);
        Checks.due(107, next(z, 1, 7));
        // In a ring it does nothing.
        z.wire(0, 0, 0);
        z.hand(0, true, 55);
        z.pass(1);
        Checks.due(107, z.out(0, 0));
    }

    private static void binds() {
        TowerHouse x = Houses.four();
        x.block(1);
        x.block(1);
        int[] noSwitch = {-2, 10, MIN, MAX};
        for (int v : noSwitch) {
            Checks.argument(() -> x.bind(0, v));
        }
        Checks.due(-1, x.bind(0, 0));
        Checks.due(0, x.bind(0, 9));
        int[] outputs = {0, 1, 49, 50, 99, 100, 101, MAX, -1, MIN};
        int[] values = {0, 1, 49, 50, 99, 100, 100, 100, 0, 0};
        for (int k = 0; k < outputs.length; k++) {
            x.numbers(0, outputs[k], 0);
            x.signal(13, 33);
            x.pass(2);
            Checks.due(values[k], x.signal(13, 33));
            Checks.due(0, x.signal(4, 0));
        }
        // Not bound any more: the switch keeps its value.
        Checks.due(9, x.bind(0, -1));
        x.numbers(0, 60, 0);
        x.pass(2);
        Checks.due(33, x.signal(13, 34));
        // The last one is that of the greatest number, in whatever order they were bound.
        x.bind(1, 0);
        x.bind(0, 0);
        x.numbers(0, 70, 0);
        x.numbers(1, 80, 0);
        x.pass(2);
        Checks.due(80, x.signal(4, 0));
        x.bind(1, -1);
        x.pass(1);
        Checks.due(70, x.signal(4, 0));
        // One block in a ring: the program does not reckon, but the switch still gets its output.
        x.block(2);
        x.wire(2, 0, 2);
        x.numbers(0, 90, 0);
        x.pass(2);
        Checks.due(70, x.signal(4, 0));
    }

    private static void points() {
        TowerHouse x = Houses.four();
        int[] noPoint = {-1, 10, MIN, MAX};
        for (int v : noPoint) {
            Checks.argument(() -> x.pointAt(v));
            Checks.argument(() -> x.point(v, 0));
        }
        for (int p = 0; p < 4; p++) {
            int point = p;
            Checks.argument(() -> x.point(point, 0));
            Checks.due(0, x.pointAt(p));
        }
        for (int p = 4; p < 10; p++) {
            int before = 0;
            for (int v : ANY) {
                Checks.due(before, x.point(p, v));
                before = v;
                Checks.due(v, x.pointAt(p));
            }
        }
        x.pass(1);
        Checks.due(MAX, x.pointAt(4));
        Checks.due(MAX, x.pointAt(9));
        Checks.due(0, x.pointAt(3));
    }

    private static void orders() {
        TowerHouse x = Houses.four();
        Checks.due(0, x.order());
        for (int k = 0; k < 6; k++) {
            x.block(2);
        }
        // Not wired at all: by their numbers.
        for (int k = 0; k < 6; k++) {
            Checks.due(k, x.out(k, 3));
        }
        // 0 behind 5, 1 behind 0: 2, 3, 4, 5, 0, 1.
        x.wire(0, 1, 5);
        x.wire(1, 0, 0);
        int[] due = {4, 5, 0, 1, 2, 3};
        for (int k = 0; k < 6; k++) {
            Checks.due(due[k], x.out(k, 3));
        }
        // As soon as 0 may come it is the least: 2 behind nothing, 5 before 3: 2, then 3 behind 5.
        x.wire(3, 0, 5);
        int[] later = {3, 4, 0, 5, 1, 2};
        for (int k = 0; k < 6; k++) {
            Checks.due(later[k], x.out(k, 3));
        }
        Checks.due(6, x.order());
        // An input that the kind does not name asks for nothing.
        x.wire(2, 2, 2);
        Checks.due(6, x.order());
        Checks.due(0, x.out(2, 3));
    }

    private static void rings() {
        // Wired to itself by an input that its kind names: a ring, but for a DELAY and kinds without inputs.
        int[] named = {0, 0, 2, 2, 2, 2, 2, 2, 2, 2, 2, 2, 2, 1, 3, 1, 0, 1, 2, 2, 0, 1, 1, 2, 2, 1};
        for (int kind = 0; kind < 26; kind++) {
            for (int input = 0; input < 3; input++) {
                TowerHouse x = ProgramTest.wired(kind, 1, 1);
                x.wire(0, input, 0);
                Checks.due(input < named[kind] ? 3 : 4, x.order());
            }
        }
        // Nothing is reckoned: outputs, states, failures stay, also of those that come before the ring.
        TowerHouse y = ProgramTest.wired(24, 0, 0);
        Checks.due(5, next(y, 5, 0));
        y.block(5);
        Checks.due(5, y.order());
        y.wire(0, 0, 0);
        Checks.due(4, y.order());
        Checks.due(5, next(y, 6, 0));
        Checks.due(5, y.out(1, 0));
        Checks.due(0, y.failed(0));
        state(y, 5, 0);
        y.wire(0, 0, 1);
        Checks.due(5, y.order());
        Checks.due(11, next(y, 6, 0));
        Checks.due(1, y.failed(0));
        // A DELAY in a ring of others takes nothing as long as there is one.
        TowerHouse z = ProgramTest.wired(2, 0, 0);
        z.block(16);
        z.wire(4, 0, 1);
        z.wire(0, 0, 0);
        z.numbers(1, 9, 0);
        z.pass(1);
        Checks.due(4, z.order());
        Checks.due(0, z.out(4, 1));
        z.wire(0, 0, 4);
        Checks.due(5, z.order());
        z.pass(1);
        Checks.due(9, z.out(4, 1));
    }

    private static void places() {
        TowerHouse x = Houses.four();
        for (int k = 0; k < 6; k++) {
            x.block(2);
        }
        // 1 and 3 are a ring, 0 is behind it; 2, 4, 5 come.
        x.wire(1, 0, 3);
        x.wire(3, 1, 1);
        x.wire(0, 0, 1);
        Checks.due(3, x.order());
        int[] due = {3, 4, 0, 5, 1, 2};
        for (int k = 0; k < 6; k++) {
            Checks.due(due[k], x.out(k, 3));
        }
        // A new block comes before them.
        x.block(1);
        Checks.due(3, x.out(6, 3));
        Checks.due(4, x.out(0, 3));
        int[] noWhat = {-1, 4, MIN, MAX};
        for (int v : noWhat) {
            Checks.argument(() -> x.out(0, v));
        }
    }

    private static void plain(int kind, int a, int b, int due) {
        TowerHouse x = ProgramTest.wired(kind, 0, 0);
        Checks.due(due, next(x, a, b));
        boolean isZero = due == SAFE;
        Checks.due(isZero ? 1 : 0, x.failed(1));
        Checks.due(isZero ? 1 : 0, x.failed(0));
    }

    private static void reckoned() {
        plain(2, MAX, 1, MIN);
        plain(2, MIN, -1, MAX);
        plain(2, MIN, MIN, 0);
        plain(3, MIN, 1, MAX);
        plain(3, 0, MIN, MIN);
        plain(3, -1, MAX, MIN);
        plain(4, 65536, 65536, 0);
        plain(4, 65536, 32768, MIN);
        plain(4, MIN, -1, MIN);
        plain(4, MAX, MAX, 1);
        plain(5, 7, 2, 3);
        plain(5, -7, 2, -3);
        plain(5, 7, -2, -3);
        plain(5, -7, -2, 3);
        plain(5, 1, 2, 0);
        plain(5, MIN, -1, MIN);
        plain(5, MIN, 1, MIN);
        plain(5, 0, 5, 0);
        plain(5, 5, 0, SAFE);
        plain(5, 0, 0, SAFE);
        plain(6, 7, 2, 1);
        plain(6, -7, 2, -1);
        plain(6, 7, -2, 1);
        plain(6, -7, -2, -1);
        plain(6, MIN, -1, 0);
        plain(6, MIN, MAX, -1);
        plain(6, 5, 0, SAFE);
        plain(6, 0, 0, SAFE);
        plain(7, MIN, MAX, MIN);
        plain(7, MAX, MIN, MIN);
        plain(7, 3, 3, 3);
        plain(8, MIN, MAX, MAX);
        plain(8, MAX, MIN, MAX);
        plain(8, -3, -3, -3);
    }

    private static void truths() {
        for (int a : ANY) {
            for (int b : ANY) {
                plain(9, a, b, a < b ? 1 : 0);
                plain(10, a, b, a == b ? 1 : 0);
                plain(11, a, b, a != 0 && b != 0 ? 1 : 0);
                plain(12, a, b, a == 0 && b == 0 ? 0 : 1);
                plain(13, a, b, a == 0 ? 1 : 0);
            }
            TowerHouse x = ProgramTest.wired(14, 0, 0);
            x.numbers(3, 77, 0);
            Checks.due(a != 0 ? 66 : 77, next(x, a, 66));
        }
    }

    private static void bad() {
        int[] none = {-1, 10, MIN, MAX};
        for (int v : none) {
            TowerHouse x = ProgramTest.wired(0, v, 0);
            Checks.due(SAFE, next(x, 0, 0));
            Checks.row(Checks.of(1, 0, 1, 0), Checks.of(x.failed(0), x.failed(1), x.failed(2), x.failed(3)));
        }
        TowerHouse x = ProgramTest.wired(0, 4, 0);
        x.point(4, MIN);
        x.point(9, MAX);
        Checks.due(MIN, next(x, 0, 0));
        x.numbers(0, 9, 0);
        Checks.due(MAX, next(x, 0, 0));
        x.numbers(0, 2, 0);
        x.fire(0, 0);
        Checks.due(1, next(x, 0, 0));
        Checks.due(0, x.failed(0));
        TowerHouse y = ProgramTest.wired(15, 0, 0);
        for (int k = 0; k < 8; k++) {
            y.row(0, k, 100 + k);
            Checks.due(100 + k, next(y, k, 0));
        }
        int[] noPlace = {-1, 8, MIN, MAX};
        for (int k = 0; k < 4; k++) {
            Checks.due(SAFE, next(y, noPlace[k], 0));
            Checks.due(k + 1, y.failed(2));
        }
        Checks.due(4, y.failed(0));
        Checks.due(107, next(y, 7, 0));
    }

    private static void nothing() {
        int[] named = {0, 0, 2, 2, 2, 2, 2, 2, 2, 2, 2, 2, 2, 1, 3, 1, 1, 1, 2, 2, 0, 1, 1, 2, 2, 1};
        for (int kind = 0; kind < 26; kind++) {
            for (int input = 0; input < 3; input++) {
                TowerHouse x = ProgramTest.wired(kind, 1, 3);
                int b = kind == 5 || kind == 6 ? 1 : 0;
                next(x, 1, b);
                long first = x.out(0, 1);
                long second = x.out(0, 2);
                x.wire(0, input, -1);
                Checks.due(0, x.failed(0));
                next(x, 1, b);
                boolean isNamed = input < named[kind];
                Checks.row(Checks.of(isNamed ? 1 : 0, 0, 0, isNamed ? 1 : 0), Checks.of(x.failed(0), x.failed(1), x.failed(2), x.failed(3)));
                if (isNamed) {
                    Checks.due(SAFE, x.out(0, 0));
                    state(x, (int) first, (int) second);
                }
            }
        }
        // All three of a CHOICE are looked at first, also that which would not be chosen.
        TowerHouse x = ProgramTest.wired(14, 0, 0);
        x.wire(0, 2, -1);
        Checks.due(SAFE, next(x, 1, 5));
        x.wire(0, 2, 3);
        x.wire(0, 1, -1);
        Checks.due(SAFE, next(x, 0, 5));
        Checks.due(2, x.failed(3));
        // NOTHING is found before ZERO and BAD.
        TowerHouse y = ProgramTest.wired(5, 0, 0);
        y.wire(0, 0, -1);
        next(y, 0, 0);
        Checks.due(1, y.failed(3));
        Checks.due(1, y.failed(0));
    }

    private static void ramps() {
        TowerHouse x = ProgramTest.wired(17, 5, 0);
        int[] aims = {5, 11, 11, 6, 6, 1, -10, -10, -10};
        int[] outs = {5, 10, 11, 6, 6, 1, -4, -9, -10};
        for (int k = 0; k < aims.length; k++) {
            Checks.due(outs[k], next(x, aims[k], 0));
        }
        x.numbers(0, 0, 0);
        Checks.due(-10, next(x, 7, 0));
        x.numbers(0, -5, 0);
        Checks.due(-10, next(x, 7, 0));
        Checks.due(-10, next(x, -20, 0));
        x.numbers(0, MIN, 0);
        Checks.due(-10, next(x, -20, 0));
        Checks.due(-10, next(x, -10, 0));
        // Over more than 2^31.
        x.hand(0, true, MAX);
        x.pass(1);
        x.hand(0, false, 0);
        x.numbers(0, MAX, 0);
        Checks.due(0, next(x, MIN, 0));
        Checks.due(-MAX, next(x, MIN, 0));
        Checks.due(MIN, next(x, MIN, 0));
        Checks.due(-1, next(x, MAX, 0));
        Checks.due(MAX - 1, next(x, MAX, 0));
        Checks.due(MAX, next(x, MAX, 0));
        // From the safe value on.
        x.numbers(0, 1, 0);
        x.wire(0, 0, -1);
        x.pass(1);
        x.wire(0, 0, 1);
        Checks.due(SAFE - 1, next(x, 0, 0));
        state(x, 0, 0);
    }

    private static void counts() {
        TowerHouse x = ProgramTest.wired(18, 0, 0);
        int[][] steps = {{0, 0, 0}, {1, 0, 1}, {1, 0, 1}, {-1, 0, 1}, {0, 0, 1}, {MIN, 0, 2}, {0, 0, 2}, {0, MIN, 0}, {0, 0, 0},
            {5, 1, 0}, {5, 0, 0}, {0, 0, 0}, {5, 0, 1}};
        for (int[] s : steps) {
            Checks.due(s[2], next(x, s[0], s[1]));
            state(x, s[2], s[0]);
        }
        // Failing takes nothing: the second value is what it was when it was reckoned last.
        x.wire(0, 1, -1);
        Checks.due(SAFE, next(x, 0, 0));
        state(x, 1, 5);
        x.wire(0, 1, 2);
        Checks.due(1, next(x, 7, 0));
    }

    private static void latches() {
        TowerHouse x = ProgramTest.wired(19, 0, 0);
        int[][] steps = {{0, 0, 0}, {0, 5, 0}, {-3, 0, 1}, {0, 0, 1}, {MIN, MAX, 1}, {0, MIN, 0}, {0, 0, 0}, {1, 1, 1}, {0, 0, 1}};
        for (int[] s : steps) {
            Checks.due(s[2], next(x, s[0], s[1]));
            state(x, s[2], 0);
        }
        // As before means the state, not what the hand showed.
        x.hand(0, true, 0);
        Checks.due(0, next(x, 0, 0));
        x.hand(0, false, 0);
        Checks.due(1, next(x, 0, 0));
    }

    private static void clock(int p, int q, int at59, int at60, int at119, int at120) {
        TowerHouse x = ProgramTest.wired(20, p, q);
        int[] more = {59, 1, 59, 1};
        int[] due = {at59, at60, at119, at120};
        for (int k = 0; k < 4; k++) {
            x.pass(more[k]);
            Checks.due(due[k], x.out(0, 0));
        }
    }

    private static void clocks() {
        clock(0, 1, 1, 0, 0, 0);
        clock(1, 2, 0, 1, 1, 0);
        clock(0, 0, 0, 0, 0, 0);
        clock(1, 1, 0, 0, 0, 0);
        clock(2, 1439, 0, 0, 0, 1);
        clock(2, 1, 1, 0, 0, 1);
        clock(1, 0, 0, 1, 1, 1);
        clock(1439, 1, 1, 0, 0, 0);
        clock(1440, 2, 1, 1, 1, 0);
        clock(MIN, MAX, 1, 1, 1, 1);
        clock(MIN, 1, 1, 0, 0, 0);
        clock(MAX, MIN, 0, 0, 0, 0);
        clock(MAX, 1, 1, 0, 0, 0);
        clock(-5, -1, 0, 0, 0, 0);
        clock(-1, -5, 1, 1, 1, 1);
    }

    private static void pulses() {
        TowerHouse x = ProgramTest.wired(21, 2, 0);
        int[][] steps = {{0, 0, 0}, {1, 1, 1}, {1, 1, 0}, {1, 0, 0}, {1, 0, 0}, {0, 0, 0}, {-1, 1, 1}, {0, 1, 0}, {0, 0, 0}};
        for (int[] s : steps) {
            Checks.due(s[1], next(x, s[0], 0));
            state(x, s[2], s[0]);
        }
        // It begins anew while it goes on.
        next(x, 4, 0);
        next(x, 0, 0);
        Checks.due(1, next(x, 4, 0));
        state(x, 1, 4);
        // With p of 1, 0 and below 0.
        int[] ps = {1, 0, -1, MIN};
        for (int p : ps) {
            TowerHouse y = ProgramTest.wired(21, p, 0);
            Checks.due(p == 1 ? 1 : 0, next(y, 9, 0));
            state(y, p == 1 ? 0 : p, 9);
            Checks.due(0, next(y, 9, 0));
        }
        TowerHouse z = ProgramTest.wired(21, MAX, 0);
        Checks.due(1, next(z, 9, 0));
        state(z, MAX - 1, 9);
    }

    private static void limitHoldSum() {
        int[][] limits = {{-1, 0, 9, 0}, {0, 0, 9, 0}, {1, 0, 9, 1}, {8, 0, 9, 8}, {9, 0, 9, 9}, {10, 0, 9, 9}, {5, 5, 5, 5},
            {4, 9, 0, 9}, {9, 9, 0, 0}, {10, 9, 0, 0}, {MIN, MIN, MAX, MIN}, {MAX, MIN, MAX, MAX}, {MIN, MAX, MIN, MAX}};
        for (int[] l : limits) {
            Checks.due(l[3], next(ProgramTest.wired(22, l[1], l[2]), l[0], 0));
        }
        TowerHouse x = ProgramTest.wired(23, 0, 0);
        Checks.due(0, next(x, 7, 1));
        Checks.due(7, next(x, 7, 0));
        Checks.due(7, next(x, 8, MIN));
        x.wire(0, 0, -1);
        Checks.due(SAFE, next(x, 8, 1));
        x.wire(0, 0, 1);
        Checks.due(SAFE, next(x, 8, 1));
        Checks.due(8, next(x, 8, 0));
        TowerHouse y = ProgramTest.wired(24, 0, 0);
        int[][] sums = {{MAX, 0, MAX}, {1, 0, MIN}, {-1, 0, MAX}, {5, 1, 0}, {5, 0, 5}, {0, MIN, 0}, {MIN, 0, MIN}, {MIN, 0, 0}};
        for (int[] s : sums) {
            Checks.due(s[2], next(y, s[0], s[1]));
            state(y, s[2], 0);
        }
    }

    private static void sinces() {
        TowerHouse x = ProgramTest.wired(25, 3, 0);
        int[] as = {1, -1, MIN, 1, 1, 0, 5};
        int[] outs = {1, 2, 3, 3, 3, 0, 1};
        for (int k = 0; k < as.length; k++) {
            Checks.due(outs[k], next(x, as[k], 0));
            state(x, outs[k], 0);
        }
        // p below 0: it is p, whatever a is; then it is counted on from there.
        x.numbers(0, -2, 0);
        Checks.due(-2, next(x, 0, 0));
        Checks.due(-2, next(x, 1, 0));
        x.numbers(0, 9, 0);
        Checks.due(-1, next(x, 1, 0));
        Checks.due(0, next(x, 1, 0));
        Checks.due(1, next(x, 1, 0));
        x.numbers(0, 0, 0);
        Checks.due(0, next(x, 1, 0));
        Checks.due(0, next(x, 0, 0));
        x.numbers(0, MIN, 0);
        Checks.due(MIN, next(x, 1, 0));
        x.numbers(0, MAX, 0);
        Checks.due(MIN + 1, next(x, 1, 0));
        Checks.due(0, next(x, 0, 0));
    }

    private static void delays() {
        // Its output is what its input was a second before; those wired to it have it in the same second.
        TowerHouse x = ProgramTest.wired(16, 0, 0);
        x.block(2);
        x.wire(4, 0, 0);
        x.wire(4, 1, 1);
        int before = 0;
        for (int v : ANY) {
            Checks.due(before, next(x, v, 0));
            Checks.due(before + v, x.out(4, 0));
            state(x, v, 0);
            before = v;
        }
        // To itself it is wired without a ring, and stays what it was.
        x.wire(0, 0, 0);
        x.pass(3);
        Checks.due(5, x.order());
        Checks.due(MAX, x.out(0, 0));
        // One not wired: a failure a second, its output is SAFE behind all others, its state stays.
        TowerHouse y = Houses.four();
        y.block(16);
        y.block(16);
        y.block(2);
        y.safe(0, 30);
        y.safe(1, 40);
        y.wire(1, 0, 0);
        y.wire(2, 0, 0);
        y.wire(2, 1, 1);
        y.pass(1);
        // Block 2 still had both states, 0; then 0 fails, and 1 takes what its output became.
        Checks.row(Checks.of(30, 0, 0), Checks.of(y.out(0, 0), y.out(1, 0), y.out(2, 0)));
        Checks.row(Checks.of(0, 30), Checks.of(y.out(0, 1), y.out(1, 1)));
        Checks.due(1, y.failed(3));
        y.pass(1);
        Checks.row(Checks.of(30, 30, 30), Checks.of(y.out(0, 0), y.out(1, 0), y.out(2, 0)));
        Checks.due(2, y.failed(0));
        // The other way round: 0 takes the state of 1 before that fails.
        TowerHouse z = Houses.four();
        z.block(16);
        z.block(16);
        z.safe(1, 40);
        z.wire(0, 0, 1);
        z.pass(2);
        Checks.row(Checks.of(0, 40), Checks.of(z.out(0, 0), z.out(1, 0)));
        Checks.due(0, z.out(0, 1));
        // In hand it keeps the hand's value, and fails all the same.
        z.hand(1, true, 9);
        z.pass(1);
        Checks.due(9, z.out(1, 0));
        Checks.due(9, z.out(0, 1));
        Checks.due(3, z.failed(3));
    }

    private static void failures() {
        TowerHouse x = ProgramTest.wired(5, 0, 0);
        int[] noKind = {-1, 4, MIN, MAX};
        for (int v : noKind) {
            Checks.argument(() -> x.failed(v));
        }
        Checks.due(0, x.failed(0) + x.failed(1) + x.failed(2) + x.failed(3));
        x.block(6);
        x.wire(4, 0, 1);
        x.wire(4, 1, 2);
        x.block(0);
        x.numbers(5, 10, 0);
        x.block(7);
        x.block(7);
        x.block(7);
        // Each second two by 0, one bad, three that are not wired.
        for (int k = 1; k <= 3; k++) {
            next(x, 1, 0);
            Checks.row(Checks.of(6 * k, 2 * k, k, 3 * k), Checks.of(x.failed(0), x.failed(1), x.failed(2), x.failed(3)));
        }
    }

    /** Blocks that fail, so many each second, and a SUM of a NUMBER that counts the seconds in which was reckoned. */
    private static TowerHouse failing(int many) {
        TowerHouse x = Houses.four();
        x.block(24);
        x.block(1);
        x.block(1);
        x.wire(0, 0, 1);
        x.wire(0, 1, 2);
        x.numbers(1, 1, 0);
        for (int k = 0; k < many; k++) {
            x.block(2);
        }
        return x;
    }

    private static void rests() {
        // 32 a second: 625 seconds make 20000; then it rests for good.
        TowerHouse x = failing(32);
        Houses.pass(x, 624);
        Checks.due(19968, x.failed(0));
        Checks.due(624, x.out(0, 0));
        Houses.pass(x, 1);
        Checks.due(20000, x.failed(0));
        Checks.due(625, x.out(0, 0));
        Houses.pass(x, 3);
        Checks.due(20000, x.failed(3));
        Checks.due(625, x.out(0, 0));
        Checks.due(625, x.out(0, 1));
        // Switches get these outputs, and what is changed in the blocks shows in nothing but the order.
        x.bind(0, 9);
        x.hand(0, true, 3);
        x.safe(3, 77);
        x.pass(1);
        Checks.due(100, x.signal(13, 0));
        Checks.due(625, x.out(0, 0));
        Checks.due(0, x.out(3, 0));
        Checks.due(35, x.order());
        x.block(1);
        Checks.due(36, x.order());
        // 33 a second: behind 606 there are 19998, and one more second counts to its end.
        TowerHouse y = failing(33);
        Houses.pass(y, 606);
        Checks.due(19998, y.failed(0));
        y.pass(1);
        Checks.due(20031, y.failed(0));
        Checks.due(607, y.out(0, 0));
        y.pass(1);
        Checks.due(20031, y.failed(0));
        Checks.due(607, y.out(0, 0));
        // 19999 are not yet enough.
        TowerHouse z = failing(31);
        Houses.pass(z, 645);
        Checks.due(19995, z.failed(0));
        for (int k = 3; k < 30; k++) {
            z.wire(k, 0, 1);
            z.wire(k, 1, 1);
        }
        z.pass(1);
        Checks.due(19999, z.failed(0));
        z.pass(1);
        Checks.due(20003, z.failed(0));
        Checks.due(647, z.out(0, 0));
        z.pass(1);
        Checks.due(647, z.out(0, 0));
    }
}
