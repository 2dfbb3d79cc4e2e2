import java.util.ArrayDeque;
import java.util.Deque;
import java.util.HashSet;
import java.util.Set;

/** The bus of HouseModel: bits as texts, and what is being heard as the text of its bits. */
final class HouseBus {
    static final class Station {
        int address;
        boolean busy;
        final Set<Integer> groups = new HashSet<>();
        /** Telegrams: priority, sender, aim, group, n, b, times said. */
        final Deque<int[]> queue = new ArrayDeque<>();
        String rest = "";
        String answer = "";
        int waits;
        int said;
        int lost;
        int stopped;
    }

    final Station[] stations = new Station[8];
    final Set<Integer> disturbed = new HashSet<>();
    int now;
    private int ones = 1000000;
    private String thing = "";
    private int begun;
    int[] latest = {};
    private int latestEnd = -1000000;
    private boolean alone;
    int answer = -1;
    final int[] heard = new int[5];
    private int[] set;

    HouseBus() {
        for (int k = 0; k < 8; k++) {
            stations[k] = new Station();
            stations[k].address = k;
        }
    }

    /** How many are in the queue then; NONE if there was no room. */
    int send(int station, int priority, int aim, boolean group, int n, int b) {
        Deque<int[]> queue = stations[station].queue;
        if (queue.size() == 6) {
            return -1;
        }
        queue.add(new int[] {priority, stations[station].address, aim, group ? 1 : 0, n, b, 0});
        return queue.size();
    }

    int pending() {
        int all = 0;
        for (int t : disturbed) {
            all += t > now ? 1 : 0;
        }
        return all;
    }

    int fact(int station, int what) {
        Station s = stations[station];
        return new int[] {s.queue.size(), s.rest.isEmpty() ? 0 : 1, s.waits > 0 ? 1 : 0, s.said, s.lost, s.stopped}[what];
    }

    private static String character(int v) {
        String bits = new StringBuilder(String.format("%8s", Integer.toBinaryString(v)).replace(' ', '0')).reverse().toString();
        return "0" + bits + (bits.replace("0", "").length() % 2) + "1";
    }

    private static String bits(int[] t) {
        int[] bytes = new int[7 + t[4]];
        bytes[0] = 176 + 4 * t[0] - (t[6] > 0 ? 32 : 0);
        bytes[1] = t[1] / 256;
        bytes[2] = t[1] % 256;
        bytes[3] = t[2] / 256;
        bytes[4] = t[2] % 256;
        bytes[5] = 128 * t[3] + t[4] - 1;
        for (int k = 0; k < t[4]; k++) {
            bytes[6 + k] = (t[5] + k) % 256;
        }
        int check = 255;
        StringBuilder all = new StringBuilder();
        for (int k = 0; k < bytes.length - 1; k++) {
            check ^= bytes[k];
            all.append(character(bytes[k])).append("11");
        }
        return all.append(character(check)).toString();
    }

    /** The point and the value that a telegram makes it, if one does. */
    int[] bitTime() {
        now++;
        set = null;
        if (now == latestEnd + 14 && alone) {
            for (Station s : stations) {
                beginAnswer(s);
            }
        }
        for (Station s : stations) {
            if (s.rest.isEmpty() && s.waits == 0 && !s.queue.isEmpty()) {
                int[] t = s.queue.peek();
                s.rest = ones >= (t[0] > 1 && t[6] == 0 ? 53 : 50) ? bits(t) : "";
            }
        }
        boolean zero = disturbed.contains(now);
        for (Station s : stations) {
            zero |= s.rest.startsWith("0") || s.answer.startsWith("0");
        }
        for (Station s : stations) {
            goOn(s, zero);
        }
        hear(zero ? '0' : '1');
        ones = zero ? 0 : ones + 1;
        for (Station s : stations) {
            if (s.waits == now) {
                endWaiting(s);
            }
        }
        return set;
    }

    private static int aimOf(int[] bytes) {
        return bytes[3] * 256 + bytes[4];
    }

    private static boolean right(int[] bytes) {
        int check = 255;
        for (int v : bytes) {
            check ^= v;
        }
        return check == 0 && bytes.length == 8 + (bytes[5] & 127);
    }

    private void beginAnswer(Station s) {
        boolean meant = latest[5] < 128 ? s.address == aimOf(latest) : s.groups.contains(aimOf(latest));
        if (meant && s.waits == 0 && s.rest.isEmpty()) {
            s.answer = character(right(latest) ? s.busy ? 192 : 204 : 12);
        }
    }

    private void goOn(Station s, boolean zero) {
        if (s.rest.startsWith("1") && zero) {
            s.rest = "";
            s.stopped++;
        } else if (!s.rest.isEmpty()) {
            s.rest = s.rest.substring(1);
            if (s.rest.isEmpty()) {
                s.waits = now + 28;
                s.queue.peek()[6]++;
            }
        }
        s.answer = s.answer.isEmpty() ? "" : s.answer.substring(1);
    }

    private void endWaiting(Station s) {
        s.waits = 0;
        if (answer == 204) {
            s.said++;
            s.queue.remove();
        } else if (s.queue.peek()[6] == 4) {
            s.lost++;
            s.queue.remove();
        }
    }

    private void hear(char bit) {
        if (thing.isEmpty()) {
            begun = now;
            thing = bit == '0' ? "0" : "";
            return;
        }
        int place = thing.length() % 13;
        if (place == 0 && bit == '1' || place > 10 && bit == '0') {
            complete();
            begun = now;
            thing = bit == '0' ? "0" : "";
        } else {
            thing += bit;
        }
    }

    private void complete() {
        int count = (thing.length() + 12) / 13;
        int[] bytes = new int[count];
        boolean bad = false;
        for (int k = 0; k < count; k++) {
            String c = thing.substring(13 * k, 13 * k + 11);
            for (int b = 8; b >= 1; b--) {
                bytes[k] = 2 * bytes[k] + (c.charAt(b) - '0');
            }
            bad |= !c.equals(character(bytes[k]));
        }
        int end = begun + 13 * (count - 1) + 10;
        alone = !bad && count >= 8;
        if (alone) {
            latest = bytes;
            latestEnd = end;
            answer = -1;
            heard[0]++;
            if (right(bytes)) {
                heard[1]++;
                set = bytes[5] >= 128 && aimOf(bytes) >= 4 && aimOf(bytes) <= 9 ? new int[] {aimOf(bytes), bytes[6]} : null;
            }
        } else if (!bad && count == 1 && begun == latestEnd + 14) {
            answer = bytes[0];
            heard[answer == 204 ? 3 : 4]++;
        } else {
            heard[2]++;
        }
    }
}
