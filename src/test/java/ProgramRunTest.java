import java.util.ArrayList;
import java.util.Arrays;
import java.util.HashSet;
import java.util.List;
import java.util.Random;
import java.util.Set;

/** Random programs, compared with a model that reckons in 64 bits and cuts off: promises 18 to 21. */
final class ProgramRunTest {
    private ProgramRunTest() {
    }

    static void all() {
        Checks.test("P18-21 random programs as in the model", ProgramRunTest::randomPrograms);
    }

    private static final class Block {
        int kind;
        long p;
        long q;
        long safe;
        int[] inputs = {-1, -1, -1};
        long out;
        long s0;
        long s1;
        long[] row = new long[8];
        boolean inHand;
        long hand;
    }

    private static final class Model {
        static final String[] NAMED = {"", "", "ab", "ab", "ab", "ab", "ab", "ab", "ab", "ab", "ab", "ab", "ab", "a", "abc", "a", "a", "a", "ab", "ab", "",
            "a", "a", "ab", "ab", "a"};
        final List<Block> blocks = new ArrayList<>();
        final long[] points = new long[10];
        final int[] failed = new int[4];
        int time;

        List<Integer> order() {
            List<Integer> order = new ArrayList<>();
            Set<Integer> there = new HashSet<>();
            boolean more = true;
            while (more) {
                more = false;
                for (int k = 0; k < blocks.size() && !more; k++) {
                    Block b = blocks.get(k);
                    boolean ready = !there.contains(k);
                    for (int i = 0; i < NAMED[b.kind].length() && b.kind != 16; i++) {
                        ready &= b.inputs[i] < 0 || there.contains(b.inputs[i]);
                    }
                    if (ready) {
                        order.add(k);
                        there.add(k);
                        more = true;
                    }
                }
            }
            return order;
        }

        void second() {
            time++;
            List<Integer> order = order();
            points[0] = points[1] = points[2] = points[3] = 0;
            if (order.size() < blocks.size()) {
                return;
            }
            for (int k : order) {
                Block b = blocks.get(k);
                long v = reckon(b);
                if (v > Integer.MAX_VALUE || v < Integer.MIN_VALUE) {
                    int why = (int) (v >> 40);
                    failed[why]++;
                    failed[0]++;
                    v = b.safe;
                }
                b.out = b.inHand ? b.hand : v;
            }
            for (Block b : blocks) {
                if (b.kind == 16 && b.inputs[0] >= 0) {
                    b.s0 = blocks.get(b.inputs[0]).out;
                } else if (b.kind == 16) {
                    failed[3]++;
                    failed[0]++;
                    b.out = b.inHand ? b.out : b.safe;
                }
            }
        }

        static final long ZERO = 1L << 40;
        static final long BAD = 2L << 40;
        static final long NOTHING = 3L << 40;

        private long in(Block b, int i) {
            return b.inputs[i] < 0 ? 0 : blocks.get(b.inputs[i]).out;
        }

        private long reckon(Block b) {
            if (b.kind == 16) {
                return b.s0;
            }
            for (int i = 0; i < NAMED[b.kind].length(); i++) {
                if (b.inputs[i] < 0) {
                    return NOTHING;
                }
            }
            long x = in(b, 0);
            long y = in(b, 1);
            long z = in(b, 2);
            long m = time / 60 % 1440;
            switch (b.kind) {
                case 0: return b.p < 0 || b.p > 9 ? BAD : points[(int) b.p];
                case 1: return b.p;
                case 2: return (int) (x + y);
                case 3: return (int) (x - y);
                case 4: return (int) (x * y);
                case 5: return y == 0 ? ZERO : (int) (x / y);
                case 6: return y == 0 ? ZERO : (int) (x - y * (int) (x / y));
                case 7: return x < y ? x : y;
                case 8: return x > y ? x : y;
                case 9: return x < y ? 1 : 0;
                case 10: return x == y ? 1 : 0;
                case 11: return x == 0 || y == 0 ? 0 : 1;
                case 12: return x == 0 && y == 0 ? 0 : 1;
                case 13: return x == 0 ? 1 : 0;
                case 14: return x == 0 ? z : y;
                case 15: return x < 0 || x > 7 ? BAD : b.row[(int) x];
                case 17:
                    long step = b.p < 0 ? 0 : b.p;
                    return Math.abs(x - b.out) <= step ? x : x > b.out ? b.out + step : b.out - step;
                case 18:
                    b.s0 = y != 0 ? 0 : x != 0 && b.s1 == 0 ? (int) (b.s0 + 1) : b.s0;
                    b.s1 = x;
                    return b.s0;
                case 19:
                    b.s0 = x != 0 ? 1 : y != 0 ? 0 : b.s0;
                    return b.s0;
                case 20: return b.p > b.q ? (m >= b.p || m < b.q ? 1 : 0) : (b.p <= m && m < b.q ? 1 : 0);
                case 21:
                    b.s0 = x != 0 && b.s1 == 0 ? b.p : b.s0;
                    b.s1 = x;
                    return b.s0 > 0 && b.s0-- > 0 ? 1 : 0;
                case 22: return x < b.p ? b.p : x > b.q ? b.q : x;
                case 23: return y != 0 ? b.out : x;
                case 24:
                    b.s0 = y != 0 ? 0 : (int) (b.s0 + x);
                    return b.s0;
                default:
                    b.s0 = Math.min(b.p, x != 0 ? b.s0 + 1 : 0);
                    return b.s0;
            }
        }
    }

    private static long value(Random r) {
        int kind = r.nextInt(12);
        if (kind == 0) {
            return r.nextInt();
        }
        if (kind == 1) {
            return new int[] {Integer.MIN_VALUE, Integer.MAX_VALUE, -1}[r.nextInt(3)];
        }
        return r.nextInt(kind < 6 ? 3 : 13) - (kind < 6 ? 0 : 3);
    }

    private static void randomPrograms() {
        int failures = 0;
        int reckoned = 0;
        for (int seed = 0; seed < 600; seed++) {
            Random r = new Random(90000 + seed);
            TowerHouse x = Houses.four();
            Model m = new Model();
            for (int step = 0; step < 200; step++) {
                randomCall(r, x, m, seed % 3 == 0);
                if (r.nextInt(6) == 0) {
                    x.pass(1);
                    m.second();
                    compare(x, m);
                    reckoned += m.order().size() == m.blocks.size() ? 1 : 0;
                }
            }
            failures += m.failed[0];
        }
        Checks.due(true, reckoned > 2000 && failures > 2000);
    }

    private static void randomCall(Random r, TowerHouse x, Model m, boolean rings) {
        int n = m.blocks.size();
        if (n < 3 || n < 40 && r.nextInt(8) == 0) {
            Block b = new Block();
            b.kind = r.nextInt(26) == 0 ? 21 : r.nextInt(26);
            m.blocks.add(b);
            Checks.due(n, x.block(b.kind));
            return;
        }
        int k = r.nextInt(n);
        Block b = m.blocks.get(k);
        switch (r.nextInt(12)) {
            case 0:
            case 1:
                b.p = value(r);
                b.q = value(r);
                x.numbers(k, (int) b.p, (int) b.q);
                break;
            case 2:
                long safe = value(r);
                Checks.due(b.safe, x.safe(k, (int) safe));
                b.safe = safe;
                break;
            case 3:
                boolean on = r.nextInt(4) == 0;
                Checks.due(b.inHand, x.hand(k, on, (int) (b.hand = value(r))));
                b.inHand = on;
                break;
            case 4:
                int at = r.nextInt(8);
                if (b.kind == 15) {
                    long v = value(r);
                    Checks.due(b.row[at], x.row(k, at, (int) v));
                    b.row[at] = v;
                } else {
                    Checks.state(() -> x.row(k, at, 0));
                }
                break;
            case 5:
                int point = 4 + r.nextInt(6);
                long v = value(r);
                Checks.due(m.points[point], x.point(point, (int) v));
                m.points[point] = v;
                break;
            default:
                int input = r.nextInt(3);
                int to = r.nextInt(12) == 0 ? -1 : rings || b.kind == 16 ? r.nextInt(n) : r.nextInt(k + 1) - (r.nextInt(8) == 0 ? 0 : 1);
                Checks.due(b.inputs[input], x.wire(k, input, to));
                b.inputs[input] = to;
                break;
        }
    }

    private static void compare(TowerHouse x, Model m) {
        List<Integer> order = m.order();
        Checks.due(order.size(), x.order());
        for (int k = 0; k < m.blocks.size(); k++) {
            Block b = m.blocks.get(k);
            long[] want = {b.out, b.s0, b.s1, placeOf(order, m.blocks.size(), k)};
            long[] got = {x.out(k, 0), x.out(k, 1), x.out(k, 2), x.out(k, 3)};
            if (!Arrays.equals(want, got)) {
                throw new AssertionError("block " + k + " of kind " + b.kind + ": " + Arrays.toString(got) + ", due is " + Arrays.toString(want));
            }
        }
        for (int k = 0; k < 4; k++) {
            Checks.due(m.failed[k], x.failed(k));
        }
    }

    private static int placeOf(List<Integer> order, int blocks, int block) {
        if (order.contains(block)) {
            return order.indexOf(block);
        }
        int place = order.size();
        for (int k = 0; k < block; k++) {
            place += order.contains(k) ? 0 : 1;
        }
        return place;
    }
}
