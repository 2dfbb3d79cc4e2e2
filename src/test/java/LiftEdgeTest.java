/** The edges that promises 24 to 27 name of cars, calls and givings, a test for each of their sentences. */
final class LiftEdgeTest {
    private static final int LEAST = Integer.MIN_VALUE;
    private static final int GREATEST = Integer.MAX_VALUE;
    private static final int[] NO_FLOOR = {-1, 60, LEAST, GREATEST};

    private LiftEdgeTest() {
    }

    static void all() {
        Checks.test("P24 edge: car, FLOORS 0 .. 59, SPEED 1 .. 5, 'also if there are 4'", LiftEdgeTest::fourCars);
        Checks.test("P25 edge: free, 'from a second on (0 .. 100000)'", LiftEdgeTest::freeSeconds);
        Checks.test("P25 edge: span, 'also if least is greater than greatest', 'all at first'", LiftEdgeTest::spans);
        Checks.test("P25 edge: call, 'also if both floors are one', 'also if there are 6 open ones'", LiftEdgeTest::sixCalls);
        Checks.test("P26 edge: begin, 'false, changing nothing'", LiftEdgeTest::notBegun);
        Checks.test("P26 edge: begin, '(that of another car is over then)', 'NONE: it is begun no more'", LiftEdgeTest::begunAnew);
        Checks.test("P26 edge: begin and done, 'it is not open'", LiftEdgeTest::notOpen);
        Checks.test("P26 edge: give, 'from the greater of TIME and the second from which it is free'", LiftEdgeTest::freeLater);
        Checks.test("P26 edge: give, WEIGHT 'one more for each whole 30 seconds'", LiftEdgeTest::weights);
        Checks.test("P26 edge: give, PICK 'before it stops', SET, 3 seconds", LiftEdgeTest::picksAndSets);
        Checks.test("P26 edge: give, 'that some car may take'", LiftEdgeTest::notGiven);
        Checks.test("P26 edge: give, 'the one that it has begun .. is the first'", LiftEdgeTest::begunFirst);
        Checks.test("P26 edge: give, 'of several the one whose first call (by numbers) has the least car'", LiftEdgeTest::leastCar);
        Checks.test("P26 edge: give, 'the one whose row has the least call first, then second'", LiftEdgeTest::leastRow);
        Checks.test("P26 edge: give, no car, no call, all that there can be", LiftEdgeTest::noneAndAll);
        Checks.test("P26 edge: give, 'At HOME none may take any'", LiftEdgeTest::home);
        Checks.test("P27 edge: given, 'NONE if it was not given (or none was made)', 'there never was such a call'", LiftEdgeTest::given);
    }

    private static void none(TowerHouse x, int call) {
        Checks.row(Checks.of(-1, -1, -1, -1), Facts.given(x, call));
    }

    private static void fourCars() {
        TowerHouse x = Houses.four();
        for (int v : NO_FLOOR) {
            Checks.argument(() -> x.car(v, 1));
        }
        int[] noSpeed = {-1, 0, 6, LEAST, GREATEST};
        for (int v : noSpeed) {
            Checks.argument(() -> x.car(0, v));
        }
        Checks.argument(() -> x.free(0, 0, 0));
        Checks.due(0, x.car(0, 1));
        Checks.due(1, x.car(59, 5));
        Checks.due(2, x.car(0, 5));
        Checks.argument(() -> x.free(3, 0, 0));
        Checks.due(3, x.car(59, 1));
        Checks.state(() -> x.car(0, 1));
        Checks.argument(() -> x.car(60, 1));
        Checks.argument(() -> x.car(0, 6));
        // All four take part: each gets the call at its floor, from 0, from 59.
        x.free(2, 30, 0);
        x.call(30, 31);
        x.call(59, 58);
        x.call(0, 1);
        x.give();
        Checks.row(Checks.of(2, 0, 8, 0), Facts.given(x, 0));
        Checks.row(Checks.of(3, 0, 4, 0), Facts.given(x, 1));
        Checks.row(Checks.of(0, 0, 4, 0), Facts.given(x, 2));
        // Free at once, also if it comes late.
        TowerHouse y = Houses.four();
        y.pass(50);
        y.car(3, 2);
        y.call(5, 6);
        Checks.due(4 + 9, y.give());
    }

    private static void freeSeconds() {
        TowerHouse x = Houses.four();
        x.car(0, 1);
        int[] noSecond = {-1, 100001, LEAST, GREATEST};
        for (int v : noSecond) {
            Checks.argument(() -> x.free(0, 0, v));
        }
        for (int v : NO_FLOOR) {
            Checks.argument(() -> x.free(0, v, 0));
        }
        int[] noCar = {-1, 1, 4, LEAST, GREATEST};
        for (int v : noCar) {
            Checks.argument(() -> x.free(v, 0, 0));
            Checks.argument(() -> x.span(v, 0, 0));
        }
        x.call(59, 0);
        x.free(0, 59, 100000);
        Checks.due(100000 + 100062, x.give());
        x.free(0, 0, 0);
        Checks.due(59 + 59 + 62, x.give());
        x.free(0, 59, 0);
        Checks.due(62, x.give());
    }

    private static void spans() {
        TowerHouse x = Houses.four();
        x.car(5, 1);
        for (int v : NO_FLOOR) {
            Checks.argument(() -> x.span(0, v, 59));
            Checks.argument(() -> x.span(0, 0, v));
        }
        Checks.argument(() -> x.span(0, 6, 5));
        Checks.argument(() -> x.span(0, 59, 0));
        x.call(0, 59);
        Checks.due(true, x.give() > 0);
        Checks.due(0, x.given(0, 0));
        int[][] spans = {{0, 59}, {1, 59}, {0, 58}, {59, 59}, {0, 0}};
        for (int[] s : spans) {
            x.span(0, s[0], s[1]);
            x.give();
            Checks.due(s == spans[0] ? 0 : -1, x.given(0, 0));
        }
        // Both floors are in it, whichever is the upper one; where the car is does not count.
        x.done(0);
        x.call(20, 10);
        x.call(10, 20);
        x.span(0, 10, 20);
        x.give();
        Checks.due(0, x.given(1, 0));
        Checks.due(0, x.given(2, 0));
        x.span(0, 11, 20);
        Checks.due(0, x.give());
        none(x, 1);
        none(x, 2);
        x.span(0, 10, 19);
        Checks.due(0, x.give());
    }

    private static void sixCalls() {
        TowerHouse x = Houses.four();
        for (int v : NO_FLOOR) {
            Checks.argument(() -> x.call(v, 1));
            Checks.argument(() -> x.call(1, v));
        }
        Checks.argument(() -> x.call(0, 0));
        Checks.argument(() -> x.call(59, 59));
        for (int k = 0; k < 6; k++) {
            Checks.due(k, x.call(59 * (k % 2), 59 - 59 * (k % 2)));
        }
        Checks.state(() -> x.call(0, 1));
        Checks.argument(() -> x.call(1, 1));
        Checks.argument(() -> x.call(0, 60));
        Checks.due(6, x.told(4));
        x.done(5);
        Checks.due(6, x.call(0, 1));
        Checks.state(() -> x.call(0, 1));
        x.done(0);
        x.done(6);
        Checks.due(7, x.call(0, 1));
        Checks.due(8, x.call(0, 1));
        Checks.state(() -> x.call(0, 1));
    }

    private static void notBegun() {
        TowerHouse x = Houses.four();
        x.car(0, 1);
        x.car(59, 1);
        x.call(5, 6);
        x.call(7, 8);
        Checks.due(true, x.begin(0, 0));
        // The car has begun another one.
        Checks.due(false, x.begin(1, 0));
        Checks.due(true, x.begin(1, 1));
        Checks.due(false, x.begin(0, 1));
        Checks.due(false, x.begin(1, 0));
        x.give();
        Checks.due(0, x.given(0, 0));
        Checks.due(1, x.given(1, 0));
        // One of its floors is not in the span; it stays begun by the car that had it.
        x.begin(1, -1);
        int[][] spans = {{6, 59}, {0, 5}, {7, 59}, {0, 4}};
        for (int[] s : spans) {
            x.span(1, s[0], s[1]);
            Checks.due(false, x.begin(0, 1));
        }
        x.give();
        Checks.due(0, x.given(0, 0));
        x.span(1, 5, 6);
        Checks.due(true, x.begin(0, 1));
        x.give();
        Checks.due(1, x.given(0, 0));
        // Begun already by this car: true, if its floors are in the span; else false, and it stays so.
        Checks.due(true, x.begin(0, 1));
        x.span(1, 6, 6);
        Checks.due(false, x.begin(0, 1));
        x.span(1, 0, 59);
        Checks.due(false, x.begin(1, 1));
    }

    private static void begunAnew() {
        TowerHouse x = Houses.four();
        x.car(0, 1);
        x.car(59, 1);
        x.call(5, 6);
        x.call(7, 8);
        Checks.due(true, x.begin(0, -1));
        x.begin(0, 1);
        Checks.due(true, x.begin(0, 0));
        // Car 1 is free for another one.
        Checks.due(true, x.begin(1, 1));
        Checks.due(true, x.begin(1, -1));
        Checks.due(true, x.begin(1, -1));
        Checks.due(false, x.begin(1, 0));
        Checks.due(true, x.begin(0, -1));
        Checks.due(true, x.begin(1, 0));
        x.give();
        Checks.row(Checks.of(0, 7, 11, 0), Facts.given(x, 1));
        // Done, it is begun no more, and its car may begin another one.
        x.done(1);
        Checks.due(true, x.begin(0, 0));
    }

    private static void notOpen() {
        TowerHouse x = Houses.four();
        x.car(0, 1);
        int[] never = {-1, 0, LEAST, GREATEST};
        for (int v : never) {
            Checks.argument(() -> x.begin(v, 0));
            Checks.argument(() -> x.begin(v, -1));
            Checks.argument(() -> x.done(v));
        }
        x.call(1, 2);
        x.call(2, 3);
        int[] noCar = {-2, 1, 4, LEAST, GREATEST};
        for (int v : noCar) {
            Checks.argument(() -> x.begin(0, v));
        }
        x.done(0);
        Checks.argument(() -> x.done(0));
        Checks.argument(() -> x.begin(0, 0));
        Checks.argument(() -> x.begin(0, -1));
        Checks.argument(() -> x.done(2));
        Checks.due(1, x.told(4));
        Checks.due(true, x.begin(1, 0));
    }

    private static void freeLater() {
        TowerHouse x = Houses.four();
        x.car(0, 1);
        x.call(0, 1);
        x.pass(20);
        int[] seconds = {0, 19, 20, 21, 50};
        int[] picks = {0, 0, 0, 1, 30};
        for (int k = 0; k < seconds.length; k++) {
            x.free(0, 0, seconds[k]);
            Checks.due(2 * picks[k] + 4, x.give());
            Checks.row(Checks.of(0, picks[k], picks[k] + 4, 0), Facts.given(x, 0));
        }
    }

    private static void weights() {
        TowerHouse x = Houses.four();
        x.car(10, 1);
        x.pass(7);
        x.call(0, 1);
        int[] more = {29, 1, 29, 1, 30};
        int[] weights = {1, 2, 2, 3, 4};
        for (int k = 0; k < more.length; k++) {
            x.pass(more[k]);
            Checks.due(weights[k] * 10 + 14, x.give());
        }
        Houses.pass(x, 5993 - 90);
        Checks.due(6000, x.told(8));
        Checks.due((1 + 5993 / 30) * 10 + 14, x.give());
    }

    private static void picksAndSets() {
        TowerHouse x = Houses.four();
        x.car(10, 5);
        x.call(10, 11);
        Checks.due(8, x.give());
        Checks.row(Checks.of(0, 0, 8, 0), Facts.given(x, 0));
        // Stops 3 seconds at its goal, too, before it goes on.
        x.call(11, 10);
        Checks.due(8 + 11 + 19, x.give());
        Checks.row(Checks.of(0, 11, 19, 1), Facts.given(x, 1));
        x.call(20, 19);
        Checks.due(8 + 11 + 19 + 72 + 80, x.give());
        Checks.row(Checks.of(0, 72, 80, 2), Facts.given(x, 2));
    }

    private static void notGiven() {
        TowerHouse x = Houses.four();
        x.call(0, 59);
        x.call(5, 6);
        // No car at all.
        Checks.due(0, x.give());
        none(x, 0);
        x.car(5, 1);
        x.span(0, 1, 59);
        Checks.due(4, x.give());
        none(x, 0);
        Checks.row(Checks.of(0, 0, 4, 0), Facts.given(x, 1));
        // A begun one just its car may take, if it may as its span is then; another one that could does not.
        x.car(0, 1);
        x.begin(0, 1);
        x.span(1, 0, 58);
        x.span(0, 0, 59);
        Checks.due(4, x.give());
        none(x, 0);
        x.begin(0, -1);
        x.give();
        Checks.due(0, x.given(0, 0));
        Checks.due(1, x.given(1, 0));
    }

    private static void begunFirst() {
        TowerHouse x = Houses.four();
        x.car(0, 1);
        x.call(1, 2);
        x.call(50, 51);
        x.give();
        Checks.due(0, x.given(0, 3));
        Checks.due(1, x.given(1, 3));
        // Begun, it comes first, however far it is.
        x.begin(1, 0);
        x.give();
        Checks.row(Checks.of(0, 50, 54, 0), Facts.given(x, 1));
        Checks.row(Checks.of(0, 107, 111, 1), Facts.given(x, 0));
        // With a second car only that which is begun stays with the first one.
        x.car(0, 5);
        x.give();
        Checks.due(0, x.given(1, 0));
        Checks.due(1, x.given(0, 0));
    }

    private static void leastCar() {
        // Four cars that are alike: the first call has car 0, and of the others each the least that costs least.
        TowerHouse x = Houses.four();
        for (int k = 0; k < 4; k++) {
            x.car(10, 1);
        }
        for (int k = 0; k < 4; k++) {
            x.call(10, 11);
        }
        x.give();
        for (int k = 0; k < 4; k++) {
            Checks.row(Checks.of(k, 0, 4, 0), Facts.given(x, k));
        }
        // Call 0 costs the same with both, call 1 as well; together with one car they cost more.
        TowerHouse y = Houses.four();
        y.car(10, 1);
        y.car(20, 1);
        y.call(15, 16);
        y.give();
        Checks.due(0, y.given(0, 0));
        y.call(15, 14);
        y.give();
        Checks.due(0, y.given(0, 0));
        Checks.due(1, y.given(1, 0));
        // By the number of the call, not by the place where it is open.
        y.done(0);
        y.call(15, 16);
        y.give();
        Checks.due(0, y.given(1, 0));
        Checks.due(1, y.given(2, 0));
    }

    private static void leastRow() {
        // Three calls that are alike in all: in the order of their numbers.
        TowerHouse x = Houses.four();
        x.car(5, 1);
        x.call(5, 7);
        x.call(5, 7);
        x.call(5, 7);
        x.give();
        for (int k = 0; k < 3; k++) {
            Checks.due(k, x.given(k, 3));
        }
        // Up or down costs the same: the least call first, also when it was told as the second.
        TowerHouse y = Houses.four();
        y.car(5, 1);
        y.call(6, 5);
        y.call(4, 5);
        Checks.due(1 + 5 + 9 + 13, y.give());
        Checks.due(0, y.given(0, 3));
        Checks.due(1, y.given(1, 3));
        y.done(0);
        y.call(6, 5);
        y.give();
        Checks.due(0, y.given(1, 3));
        Checks.due(1, y.given(2, 3));
    }

    private static void noneAndAll() {
        TowerHouse x = Houses.four();
        Checks.due(0, x.give());
        x.car(0, 1);
        Checks.due(0, x.give());
        for (int k = 0; k < 3; k++) {
            x.car(0, 1);
        }
        for (int k = 0; k < 6; k++) {
            x.call(k, 59 - k);
        }
        Checks.due(true, x.give() > 0);
        int[] many = new int[4];
        for (int k = 0; k < 6; k++) {
            many[(int) x.given(k, 0)]++;
        }
        Checks.due(6, many[0] + many[1] + many[2] + many[3]);
        // Six of one car: each has a place of its own.
        for (int car = 1; car < 4; car++) {
            x.span(car, 59, 59);
        }
        x.give();
        int places = 0;
        for (int k = 0; k < 6; k++) {
            Checks.due(0, x.given(k, 0));
            places |= 1 << x.given(k, 3);
        }
        Checks.due(63, places);
        // Calls far above the least numbers are given as well.
        for (int k = 0; k < 60; k++) {
            x.done(k);
            Checks.due(k + 6, x.call(3, 4));
        }
        x.give();
        Checks.due(0, x.given(65, 0));
        none(x, 59);
    }

    private static void home() {
        TowerHouse x = Houses.four();
        x.car(5, 1);
        x.call(7, 6);
        x.call(8, 6);
        x.begin(1, 0);
        x.give();
        Checks.due(0, x.given(1, 3));
        Houses.matrix(x, "zone 0 needs 1 of 4;act 0 kind 1 rank 0 delay 0;when 0 does 0;");
        x.signal(4, 50);
        x.pass(1);
        // What was given stays so until the next giving.
        Checks.due(0, x.given(1, 0));
        Checks.due(0, x.give());
        none(x, 0);
        none(x, 1);
        // It may be called, begun and done all the same; what was begun stays begun.
        Checks.due(2, x.call(1, 2));
        Checks.due(false, x.begin(2, 0));
        x.signal(4, 0);
        x.pass(1);
        x.give();
        Checks.due(0, x.given(1, 3));
    }

    private static void given() {
        TowerHouse x = Houses.four();
        int[] never = {-1, 0, LEAST, GREATEST};
        for (int v : never) {
            Checks.argument(() -> x.given(v, 0));
        }
        x.call(1, 2);
        int[] noWhat = {-1, 4, LEAST, GREATEST};
        for (int v : noWhat) {
            Checks.argument(() -> x.given(0, v));
        }
        none(x, 0);
        Checks.argument(() -> x.given(1, 0));
        x.car(0, 1);
        none(x, 0);
        x.give();
        Checks.row(Checks.of(0, 1, 5, 0), Facts.given(x, 0));
        // Done, it is still told as it was given; in the next giving it is not there.
        x.done(0);
        Checks.row(Checks.of(0, 1, 5, 0), Facts.given(x, 0));
        x.call(3, 4);
        none(x, 1);
        x.give();
        none(x, 0);
        Checks.row(Checks.of(0, 3, 7, 0), Facts.given(x, 1));
        Checks.argument(() -> x.given(2, 0));
    }
}
