import java.util.ArrayList;
import java.util.List;

/** The block program of HouseModel. */
final class HouseProgram {
    static final class Block {
        final int kind;
        int p;
        int q;
        int safe;
        final int[] inputs = {-1, -1, -1};
        int out;
        int first;
        int second;
        final int[] row = new int[8];
        boolean inHand;
        int hand;
        int bound = -1;

        Block(int kind) {
            this.kind = kind;
        }
    }

    /** Why a block failed. */
    private static final class Failure extends Exception {
        private static final long serialVersionUID = 1;
        final int why;

        Failure(int why) {
            this.why = why;
        }
    }

    final List<Block> blocks = new ArrayList<>();
    final int[] points = new int[10];
    final int[] failed = new int[4];
    boolean rests;

    private static int named(int kind) {
        switch (kind) {
            case 0:
            case 1:
            case 20:
                return 0;
            case 13:
            case 15:
            case 16:
            case 17:
            case 21:
            case 22:
            case 25:
                return 1;
            case 14:
                return 3;
            default:
                return 2;
        }
    }

    List<Block> order() {
        List<Block> order = new ArrayList<>();
        for (int k = 0; k < blocks.size(); k++) {
            Block b = blocks.get(k);
            if (!order.contains(b) && mayCome(b, order)) {
                order.add(b);
                k = -1;
            }
        }
        return order;
    }

    private boolean mayCome(Block b, List<Block> order) {
        for (int k = 0; k < named(b.kind) && b.kind != 16; k++) {
            if (b.inputs[k] >= 0 && !order.contains(blocks.get(b.inputs[k]))) {
                return false;
            }
        }
        return true;
    }

    int placeOf(int block) {
        List<Block> order = order();
        for (Block b : blocks) {
            if (!order.contains(b)) {
                order.add(b);
            }
        }
        return order.indexOf(blocks.get(block));
    }

    void second(int minute) {
        List<Block> order = order();
        if (rests || order.size() < blocks.size()) {
            return;
        }
        for (Block b : order) {
            int v;
            try {
                v = reckon(b, minute);
            } catch (Failure f) {
                fail(f.why);
                v = b.safe;
            }
            b.out = b.inHand ? b.hand : v;
        }
        for (Block b : blocks) {
            if (b.kind == 16 && b.inputs[0] >= 0) {
                b.first = blocks.get(b.inputs[0]).out;
            } else if (b.kind == 16) {
                fail(3);
                b.out = b.inHand ? b.hand : b.safe;
            }
        }
        rests = failed[0] >= 20000;
    }

    private void fail(int why) {
        failed[why]++;
        failed[0]++;
    }

    private int reckon(Block k, int m) throws Failure {
        int[] in = new int[3];
        for (int i = 0; i < 3; i++) {
            if (k.inputs[i] >= 0) {
                in[i] = blocks.get(k.inputs[i]).out;
            } else if (i < named(k.kind) && k.kind != 16) {
                throw new Failure(3);
            }
        }
        return k.kind < 15 ? plain(k, in[0], in[1], in[2]) : kept(k, in[0], in[1], m);
    }

    private int plain(Block k, int a, int b, int c) throws Failure {
        if ((k.kind == 5 || k.kind == 6) && b == 0) {
            throw new Failure(1);
        }
        switch (k.kind) {
            case 0:
                if (k.p < 0 || k.p > 9) {
                    throw new Failure(2);
                }
                return points[k.p];
            case 1:
                return k.p;
            case 2:
                return a + b;
            case 3:
                return a - b;
            case 4:
                return a * b;
            case 5:
                return (int) ((long) a / b);
            case 6:
                return (int) ((long) a % b);
            case 7:
                return Math.min(a, b);
            case 8:
                return Math.max(a, b);
            case 9:
                return Integer.compare(a, b) < 0 ? 1 : 0;
            case 10:
                return Integer.compare(a, b) == 0 ? 1 : 0;
            case 11:
                return a == 0 ? 0 : b == 0 ? 0 : 1;
            case 12:
                return a != 0 ? 1 : b != 0 ? 1 : 0;
            case 13:
                return a != 0 ? 0 : 1;
            default:
                return a == 0 ? c : b;
        }
    }

    private int kept(Block k, int a, int b, int m) throws Failure {
        int before = k.first;
        switch (k.kind) {
            case 15:
                if (a < 0 || a > 7) {
                    throw new Failure(2);
                }
                return k.row[a];
            case 16:
                return before;
            case 17:
                long p = k.p < 0 ? 0 : k.p;
                return (int) Math.max(k.out - p, Math.min(k.out + p, (long) a));
            case 18:
                k.first = b != 0 ? 0 : a != 0 && k.second == 0 ? before + 1 : before;
                k.second = a;
                return k.first;
            case 19:
                k.first = a != 0 ? 1 : b != 0 ? 0 : before;
                return k.first;
            case 20:
                boolean in = k.p > k.q ? m >= k.p || m < k.q : k.p <= m && m < k.q;
                return in ? 1 : 0;
            case 21:
                k.first = a != 0 && k.second == 0 ? k.p : before;
                k.second = a;
                boolean above = k.first > 0;
                k.first -= above ? 1 : 0;
                return above ? 1 : 0;
            case 22:
                return a < k.p ? k.p : a > k.q ? k.q : a;
            case 23:
                return b != 0 ? k.out : a;
            case 24:
                k.first = b != 0 ? 0 : before + a;
                return k.first;
            default:
                k.first = a != 0 ? before + 1 : 0;
                k.first = k.first > k.p ? k.p : k.first;
                return k.first;
        }
    }
}
