import java.util.ArrayList;
import java.util.Arrays;
import java.util.List;
import java.util.Random;

/** Promises 24 to 27: cars, calls, givings. */
final class LiftTest {
    private LiftTest() {
    }

    static void all() {
        Checks.test("P24 car: numbers, limits, wrong calls", LiftTest::cars);
        Checks.test("P25 free: where and from when on", LiftTest::free);
        Checks.test("P25 span: both floors", LiftTest::spans);
        Checks.test("P25 call: at most 6 open ones, 400 in all", LiftTest::calls);
        Checks.test("P26 begin: one car, one call", LiftTest::begins);
        Checks.test("P26 done: open ones", LiftTest::dones);
        Checks.test("P26 give: picks, sets, weights", LiftTest::gives);
        Checks.test("P26 give: of several the first", LiftTest::ties);
        Checks.test("P26 give: none at home", LiftTest::home);
        Checks.test("P26 give: as all givings compared", LiftTest::randomGivings);
        Checks.test("P27 given: as it was made last", LiftTest::given);
        Checks.test("P24-27 before the house is built", LiftTest::planned);
    }

    private static void cars() {
        TowerHouse x = Houses.four();
        for (int k = 0; k < 4; k++) {
            Checks.due(k, x.car(59 * (k % 2), 1 + k));
        }
        Checks.state(() -> x.car(0, 1));
        Checks.argument(() -> x.car(60, 1));
        Checks.argument(() -> x.car(-1, 1));
        Checks.argument(() -> x.car(0, 0));
        Checks.argument(() -> x.car(0, 6));
    }

    private static void free() {
        TowerHouse x = Houses.four();
        x.car(10, 3);
        x.call(12, 5);
        Checks.due(6 + 30, x.give());
        Checks.row(Checks.of(0, 6, 30, 0), Facts.given(x, 0));
        x.pass(20);
        x.free(0, 20, 50);
        // 30 seconds, 8 floors; then 3 and 7 floors.
        Checks.due(54 + 78, x.give());
        x.free(0, 20, 19);
        Checks.due(24 + 48, x.give());
        x.free(0, 0, 100000);
        Checks.due(99980 + 36 + 99980 + 36 + 24, x.give());
        Checks.argument(() -> x.free(1, 0, 0));
        Checks.argument(() -> x.free(-1, 0, 0));
        Checks.argument(() -> x.free(0, 60, 0));
        Checks.argument(() -> x.free(0, -1, 0));
        Checks.argument(() -> x.free(0, 0, -1));
        Checks.argument(() -> x.free(0, 0, 100001));
    }

    private static void spans() {
        TowerHouse x = Houses.four();
        x.car(10, 1);
        x.car(10, 2);
        x.call(20, 10);
        x.call(59, 0);
        x.span(0, 10, 20);
        Checks.due(10 + 23 + 98 + 219, x.give());
        Checks.due(0, x.given(0, 0));
        Checks.due(1, x.given(1, 0));
        x.span(0, 11, 59);
        x.span(1, 0, 19);
        Checks.due(0, x.give());
        Checks.due(-1, x.given(0, 0));
        x.span(1, 0, 59);
        x.give();
        Checks.due(1, x.given(0, 0));
        Checks.due(1, x.given(1, 0));
        x.span(0, 7, 7);
        Checks.argument(() -> x.span(0, 8, 7));
        Checks.argument(() -> x.span(0, -1, 7));
        Checks.argument(() -> x.span(0, 0, 60));
        Checks.argument(() -> x.span(2, 0, 1));
        Checks.argument(() -> x.span(-1, 0, 1));
    }

    private static void calls() {
        TowerHouse x = Houses.four();
        for (int k = 0; k < 6; k++) {
            Checks.due(k, x.call(0, 59));
        }
        Checks.state(() -> x.call(0, 59));
        Checks.argument(() -> x.call(0, 0));
        Checks.argument(() -> x.call(60, 0));
        Checks.argument(() -> x.call(-1, 0));
        Checks.argument(() -> x.call(0, 60));
        Checks.argument(() -> x.call(0, -1));
        x.done(3);
        Checks.due(6, x.call(1, 2));
        Checks.due(6, x.told(4));
        // More than an object's 512 calls would be needed for all 400; as far as it goes:
        for (int k = 7; k < 240; k++) {
            x.done(k - 1);
            Checks.due(k, x.call(1, 2));
        }
        Checks.due(6, x.told(4));
    }

    private static void begins() {
        TowerHouse x = Houses.four();
        x.car(0, 1);
        x.car(0, 1);
        x.call(5, 6);
        x.call(7, 8);
        Checks.due(true, x.begin(0, 1));
        Checks.due(true, x.begin(0, 1));
        Checks.due(false, x.begin(1, 1));
        x.give();
        Checks.due(1, x.given(0, 0));
        // Another car takes it over, and the first one is free for another call.
        Checks.due(true, x.begin(0, 0));
        Checks.due(true, x.begin(1, 1));
        x.give();
        Checks.due(0, x.given(0, 0));
        Checks.due(1, x.given(1, 0));
        Checks.due(false, x.begin(1, 0));
        x.give();
        Checks.due(1, x.given(1, 0));
        Checks.due(true, x.begin(1, -1));
        Checks.due(true, x.begin(1, -1));
        x.span(1, 0, 7);
        Checks.due(false, x.begin(1, 1));
        x.span(1, 0, 8);
        Checks.due(true, x.begin(1, 1));
        // A begun one is that car's alone, and only if it may take it as its span is then.
        x.span(1, 0, 7);
        x.give();
        Checks.due(-1, x.given(1, 0));
        Checks.due(0, x.given(0, 0));
        x.done(0);
        Checks.due(true, x.begin(1, 0));
        Checks.argument(() -> x.begin(0, 0));
        Checks.argument(() -> x.begin(2, 0));
        Checks.argument(() -> x.begin(-1, 0));
        Checks.argument(() -> x.begin(1, 2));
        Checks.argument(() -> x.begin(1, -2));
    }

    private static void dones() {
        TowerHouse x = Houses.four();
        Checks.argument(() -> x.done(0));
        x.call(0, 1);
        x.call(1, 2);
        x.call(2, 3);
        x.done(1);
        Checks.argument(() -> x.done(1));
        Checks.argument(() -> x.done(3));
        Checks.argument(() -> x.done(-1));
        Checks.due(2, x.told(4));
        x.done(0);
        x.done(2);
        Checks.due(0, x.told(4));
        // A car whose call is done may begin another one.
        x.car(0, 1);
        x.call(0, 1);
        x.call(1, 2);
        x.begin(3, 0);
        x.done(3);
        Checks.due(true, x.begin(4, 0));
    }

    private static void gives() {
        TowerHouse x = Houses.four();
        Checks.due(0, x.give());
        x.call(3, 9);
        Checks.due(0, x.give());
        x.car(5, 2);
        Checks.due(4 + 19, x.give());
        x.pass(29);
        Checks.due(4 + 19, x.give());
        x.pass(1);
        Checks.due(2 * 4 + 19, x.give());
        x.pass(29);
        Checks.due(2 * 4 + 19, x.give());
        x.pass(1);
        Checks.due(3 * 4 + 19, x.give());
        // The other one first: 6 floors up are 12 and 2 floors more 4; then 13 floors down.
        x.call(11, 13);
        x.begin(1, 0);
        Checks.due(12 + 19 + 3 * (12 + 3 + 4 + 3 + 20) + 12 + 3 + 4 + 3 + 20 + 3 + 12, x.give());
        Checks.row(Checks.of(0, 12, 19, 0), Facts.given(x, 1));
        Checks.row(Checks.of(0, 42, 57, 1), Facts.given(x, 0));
    }

    private static void ties() {
        // All costs are alike: the first call has the least car.
        TowerHouse x = Houses.four();
        x.car(5, 1);
        x.car(5, 1);
        x.call(10, 20);
        x.call(0, 1);
        x.give();
        Checks.due(0, x.given(0, 0));
        Checks.due(1, x.given(1, 0));
        TowerHouse y = Houses.four();
        y.car(5, 1);
        y.car(5, 1);
        y.call(7, 6);
        y.call(3, 4);
        y.give();
        Checks.due(0, y.given(0, 0));
        Checks.due(1, y.given(1, 0));
        // One car, two calls that are alike: the one with the least number comes first.
        TowerHouse z = Houses.four();
        z.car(5, 1);
        z.call(5, 6);
        z.call(5, 4);
        z.give();
        Checks.due(0, z.given(0, 3));
        Checks.due(1, z.given(1, 3));
    }

    private static void home() {
        TowerHouse x = Houses.four();
        x.car(5, 1);
        x.call(7, 6);
        x.begin(0, 0);
        Checks.due(2 + 6, x.give());
        Houses.write(x, "zone 0 needs 1 of 4;act 0 kind 1 rank 0 delay 0;when 0 does 0;");
        x.matrix();
        x.signal(4, 50);
        x.pass(1);
        Checks.due(1, x.told(6));
        Checks.due(0, x.given(0, 0));
        Checks.due(0, x.give());
        Checks.row(Checks.of(-1, -1, -1, -1), Facts.given(x, 0));
        Checks.due(1, x.call(3, 4));
        Checks.due(true, x.begin(1, -1));
        x.signal(4, 0);
        x.pass(1);
        x.give();
        Checks.due(0, x.given(0, 0));
        Checks.due(0, x.given(0, 3));
    }

    private static void given() {
        TowerHouse x = Houses.four();
        Checks.argument(() -> x.given(0, 0));
        x.car(5, 1);
        x.call(7, 6);
        Checks.row(Checks.of(-1, -1, -1, -1), Facts.given(x, 0));
        x.give();
        x.call(8, 6);
        Checks.row(Checks.of(0, 2, 6, 0), Facts.given(x, 0));
        Checks.row(Checks.of(-1, -1, -1, -1), Facts.given(x, 1));
        x.done(0);
        x.free(0, 59, 9);
        Checks.row(Checks.of(0, 2, 6, 0), Facts.given(x, 0));
        x.give();
        Checks.row(Checks.of(-1, -1, -1, -1), Facts.given(x, 0));
        Checks.row(Checks.of(0, 60, 65, 0), Facts.given(x, 1));
        Checks.argument(() -> x.given(2, 0));
        Checks.argument(() -> x.given(-1, 0));
        Checks.argument(() -> x.given(0, 4));
        Checks.argument(() -> x.given(0, -1));
    }

    /** A giving is a list of calls with their cars, and a row for each car; all of them are made and compared. */
    private static final class Model {
        final int[][] cars;
        final int[][] calls;
        final int time;
        long least = Long.MAX_VALUE;
        List<List<Integer>> rows;
        int[] chosen;

        Model(int[][] cars, int[][] calls, int time) {
            this.cars = cars;
            this.calls = calls;
            this.time = time;
        }

        boolean may(int call, int car) {
            int[] c = calls[call];
            if (c[3] != -1 && c[3] != car) {
                return false;
            }
            for (int k = 0; k < 2; k++) {
                if (c[k] < cars[car][3] || c[k] > cars[car][4]) {
                    return false;
                }
            }
            return true;
        }

        void choose(int call, int[] chosen) {
            if (call == calls.length) {
                List<List<Integer>> empty = new ArrayList<>();
                for (int k = 0; k < cars.length; k++) {
                    empty.add(new ArrayList<>());
                }
                arrange(0, chosen, empty);
                return;
            }
            boolean any = false;
            for (int car = 0; car < cars.length; car++) {
                if (may(call, car)) {
                    any = true;
                    chosen[call] = car;
                    choose(call + 1, chosen);
                }
            }
            if (!any) {
                chosen[call] = -1;
                choose(call + 1, chosen);
            }
        }

        /** Puts each call at each place of its car's row. */
        void arrange(int call, int[] chosen, List<List<Integer>> rows) {
            if (call == calls.length) {
                judge(chosen, rows);
                return;
            }
            if (chosen[call] < 0) {
                arrange(call + 1, chosen, rows);
                return;
            }
            List<Integer> row = rows.get(chosen[call]);
            for (int place = 0; place <= row.size(); place++) {
                row.add(place, call);
                arrange(call + 1, chosen, rows);
                row.remove(place);
            }
        }

        void judge(int[] chosen, List<List<Integer>> rows) {
            long sum = 0;
            for (int car = 0; car < cars.length; car++) {
                List<Integer> row = rows.get(car);
                for (int k = 1; k < row.size(); k++) {
                    if (calls[row.get(k)][3] == car) {
                        return;
                    }
                }
                for (long[] fact : facts(car, row)) {
                    sum += fact[2];
                }
            }
            if (sum < least || sum == least && isBefore(chosen, rows)) {
                least = sum;
                this.chosen = chosen.clone();
                this.rows = new ArrayList<>();
                for (List<Integer> row : rows) {
                    this.rows.add(new ArrayList<>(row));
                }
            }
        }

        boolean isBefore(int[] chosen, List<List<Integer>> rows) {
            int order = Arrays.compare(chosen, this.chosen);
            for (int car = 0; car < cars.length && order == 0; car++) {
                for (int k = 0; k < rows.get(car).size() && order == 0; k++) {
                    order = Integer.compare(rows.get(car).get(k), this.rows.get(car).get(k));
                }
            }
            return order < 0;
        }

        /** Pick, set and cost of each call of a row. */
        List<long[]> facts(int car, List<Integer> row) {
            List<long[]> all = new ArrayList<>();
            long now = Math.max(time, cars[car][2]);
            int floor = cars[car][0];
            for (int call : row) {
                int[] c = calls[call];
                now += Math.abs(floor - c[0]) * cars[car][1];
                long pick = now - time;
                now += 3 + Math.abs(c[0] - c[1]) * cars[car][1];
                long set = now - time;
                now += 3;
                floor = c[1];
                all.add(new long[] {pick, set, (1 + (time - c[2]) / 30) * pick + set});
            }
            return all;
        }
    }

    private static void randomGivings() {
        for (int seed = 0; seed < 250; seed++) {
            Random r = new Random(seed);
            TowerHouse x = Houses.four();
            int floors = seed % 2 == 0 ? 60 : 4;
            int[][] cars = new int[1 + r.nextInt(4)][];
            for (int k = 0; k < cars.length; k++) {
                int least = r.nextInt(3) == 0 ? r.nextInt(floors) : 0;
                cars[k] = new int[] {r.nextInt(floors), 1 + r.nextInt(2), r.nextInt(3) == 0 ? r.nextInt(200) : 0, least, 59};
                x.car(cars[k][0], cars[k][1]);
                x.free(k, cars[k][0], cars[k][2]);
            }
            int many = 1 + r.nextInt(cars.length > 2 ? 5 : 6);
            int[][] calls = new int[many][];
            int time = 0;
            for (int k = 0; k < many; k++) {
                int from = r.nextInt(floors);
                int to = (from + 1 + r.nextInt(floors - 1)) % floors;
                calls[k] = new int[] {from, to, time, -1};
                Checks.due(k, x.call(from, to));
                if (r.nextInt(3) == 0) {
                    int seconds = 1 + r.nextInt(40);
                    time = x.pass(seconds);
                }
            }
            for (int car = 0; car < cars.length; car++) {
                int call = r.nextInt(many);
                if (r.nextBoolean() && calls[call][3] == -1) {
                    Checks.due(true, x.begin(call, car));
                    calls[call][3] = car;
                }
            }
            for (int car = 0; car < cars.length; car++) {
                x.span(car, cars[car][3], 59);
            }
            Model m = new Model(cars, calls, time);
            m.choose(0, new int[many]);
            Checks.due(m.least, x.give());
            long[][] due = new long[many][];
            Arrays.fill(due, Checks.of(-1, -1, -1, -1));
            for (int car = 0; car < cars.length; car++) {
                List<Integer> row = m.rows.get(car);
                List<long[]> facts = m.facts(car, row);
                for (int k = 0; k < row.size(); k++) {
                    due[row.get(k)] = Checks.of(car, facts.get(k)[0], facts.get(k)[1], k);
                }
            }
            for (int k = 0; k < many; k++) {
                Checks.row(due[k], Facts.given(x, k));
            }
        }
    }

    private static void planned() {
        TowerHouse x = Houses.fourPlanned();
        Checks.state(() -> x.car(0, 1));
        Checks.argument(() -> x.car(0, 0));
        Checks.argument(() -> x.free(0, 0, 0));
        Checks.argument(() -> x.span(0, 0, 0));
        Checks.state(() -> x.call(0, 1));
        Checks.argument(() -> x.call(0, 0));
        Checks.argument(() -> x.begin(0, -1));
        Checks.argument(() -> x.done(0));
        Checks.state(x::give);
        Checks.argument(() -> x.given(0, 0));
    }
}
