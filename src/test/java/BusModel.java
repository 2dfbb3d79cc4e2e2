import java.util.ArrayDeque;
import java.util.ArrayList;
import java.util.Deque;
import java.util.HashSet;
import java.util.List;
import java.util.Set;

/** The bus once more, told in another way: in each bit time all that was ever heard is read anew from the line's bits. */
final class BusModel {
    private static final class Telegram {
        int priority;
        int sender;
        int aim;
        boolean group;
        int n;
        int b;
        int said;

        List<Integer> bytes() {
            List<Integer> all = new ArrayList<>();
            all.add((said > 0 ? 144 : 176) + 4 * priority);
            all.add(sender >> 8);
            all.add(sender & 255);
            all.add(aim >> 8);
            all.add(aim & 255);
            all.add((group ? 128 : 0) | n - 1);
            for (int k = 0; k < n; k++) {
                all.add(b + k & 255);
            }
            int check = 255;
            for (int v : all) {
                check ^= v;
            }
            all.add(check);
            return all;
        }
    }

    private static final class Thing {
        int begun;
        int end;
        int completeAt;
        boolean bad;
        final List<Integer> bytes = new ArrayList<>();

        boolean isTelegram() {
            return bytes.size() >= 8 && !bad;
        }

        boolean isRight() {
            int check = 255;
            for (int k = 0; k < bytes.size() - 1; k++) {
                check ^= bytes.get(k);
            }
            int data = bytes.get(5) >= 128 ? bytes.get(5) - 127 : bytes.get(5) + 1;
            return check == bytes.get(bytes.size() - 1) && bytes.size() == 7 + data;
        }
    }

    private static final class Station {
        int address;
        boolean busy;
        final Set<Integer> groups = new HashSet<>();
        final Deque<Telegram> queue = new ArrayDeque<>();
        String saying = null;
        int sayingAt;
        String answering = null;
        int answeringAt;
        int saidAt = -1;
        int said;
        int lost;
        int stopped;
    }

    final int[] points = new int[10];
    private final List<Station> stations = new ArrayList<>();
    private final StringBuilder line = new StringBuilder("-");
    private final Set<Integer> disturbed = new HashSet<>();
    private List<Thing> things = new ArrayList<>();

    BusModel() {
        for (int k = 0; k < 8; k++) {
            Station s = new Station();
            s.address = k;
            stations.add(s);
        }
    }

    private int now() {
        return line.length() - 1;
    }

    int address(int station, int address) {
        int before = stations.get(station).address;
        stations.get(station).address = address;
        return before;
    }

    boolean listen(int station, int group, boolean on) {
        Set<Integer> groups = stations.get(station).groups;
        return on ? !groups.add(group) : groups.remove(group);
    }

    boolean busy(int station, boolean on) {
        boolean before = stations.get(station).busy;
        stations.get(station).busy = on;
        return before;
    }

    /** NONE if there is no room. */
    int send(int station, int priority, int aim, boolean group, int n, int b) {
        Station s = stations.get(station);
        if (s.queue.size() == 6) {
            return -1;
        }
        Telegram t = new Telegram();
        t.priority = priority;
        t.sender = s.address;
        t.aim = aim;
        t.group = group;
        t.n = n;
        t.b = b;
        s.queue.add(t);
        return s.queue.size();
    }

    int pending() {
        int all = 0;
        for (int at : disturbed) {
            all += at > now() ? 1 : 0;
        }
        return all;
    }

    boolean disturb(int behind) {
        return disturbed.add(now() + behind);
    }

    int station(int station, int what) {
        Station s = stations.get(station);
        int[] all = {s.queue.size(), s.saying != null ? 1 : 0, s.saidAt >= 0 ? 1 : 0, s.said, s.lost, s.stopped};
        return all[what];
    }

    private Thing latestTelegram() {
        Thing latest = null;
        for (Thing t : things) {
            latest = t.isTelegram() ? t : latest;
        }
        return latest;
    }

    private static boolean isAnswer(Thing thing, Thing telegram) {
        return telegram != null && thing.begun == telegram.end + 14 && thing.bytes.size() == 1 && !thing.bad;
    }

    private int answerTo(Thing telegram) {
        for (Thing t : things) {
            if (isAnswer(t, telegram)) {
                return t.bytes.get(0);
            }
        }
        return -1;
    }

    int heard(int what) {
        int[] all = new int[5];
        Thing latest = null;
        for (Thing t : things) {
            if (t.isTelegram()) {
                all[0]++;
                all[1] += t.isRight() ? 1 : 0;
                latest = t;
            } else if (isAnswer(t, latest)) {
                all[t.bytes.get(0) == 204 ? 3 : 4]++;
            } else {
                all[2]++;
            }
        }
        return all[what];
    }

    /** NO if there is no such byte. */
    int byteAt(int i) {
        Thing latest = latestTelegram();
        if (i == -1) {
            return answerTo(latest);
        }
        return latest == null || i >= latest.bytes.size() ? -2 : latest.bytes.get(i);
    }

    void second() {
        for (int k = 0; k < 30; k++) {
            bitTime();
        }
    }

    private static String character(int v) {
        StringBuilder all = new StringBuilder("0");
        int ones = 0;
        for (int k = 0; k < 8; k++) {
            int bit = v >> k & 1;
            ones += bit;
            all.append(bit);
        }
        return all.append(ones % 2).append('1').toString();
    }

    private void bitTime() {
        int t = now() + 1;
        Thing latest = latestTelegram();
        if (latest != null && latest.end + 14 == t && things.get(things.size() - 1) == latest) {
            int aim = latest.bytes.get(3) << 8 | latest.bytes.get(4);
            for (Station s : stations) {
                boolean meant = latest.bytes.get(5) < 128 ? s.address == aim : s.groups.contains(aim);
                if (meant && s.saidAt < 0 && s.saying == null) {
                    s.answering = character(!latest.isRight() ? 12 : s.busy ? 192 : 204);
                    s.answeringAt = t;
                }
            }
        }
        int idle = 0;
        while (idle < now() && line.charAt(now() - idle) == '1') {
            idle++;
        }
        boolean always = idle == now();
        for (Station s : stations) {
            if (s.saying == null && s.saidAt < 0 && !s.queue.isEmpty()) {
                Telegram first = s.queue.peek();
                int due = first.said == 0 && first.priority > 1 ? 53 : 50;
                if (always || idle >= due) {
                    StringBuilder all = new StringBuilder();
                    for (int v : first.bytes()) {
                        all.append(all.length() > 0 ? "11" : "").append(character(v));
                    }
                    s.saying = all.toString();
                    s.sayingAt = t;
                }
            }
        }
        char bit = disturbed.contains(t) ? '0' : '1';
        for (Station s : stations) {
            if (s.saying != null && s.saying.charAt(t - s.sayingAt) == '0') {
                bit = '0';
            }
            if (s.answering != null && s.answering.charAt(t - s.answeringAt) == '0') {
                bit = '0';
            }
        }
        line.append(bit);
        for (Station s : stations) {
            if (s.saying != null && s.saying.charAt(t - s.sayingAt) == '1' && bit == '0') {
                s.saying = null;
                s.stopped++;
            } else if (s.saying != null && t - s.sayingAt == s.saying.length() - 1) {
                s.saying = null;
                s.saidAt = t;
                s.queue.peek().said++;
            }
            if (s.answering != null && t - s.answeringAt == 10) {
                s.answering = null;
            }
        }
        int before = things.size();
        things = read(line);
        if (things.size() > before) {
            Thing last = things.get(things.size() - 1);
            int aim = last.bytes.size() > 5 ? last.bytes.get(3) * 256 + last.bytes.get(4) : -1;
            if (last.isTelegram() && last.isRight() && last.bytes.get(5) >= 128 && aim >= 4 && aim <= 9) {
                points[aim] = last.bytes.get(6);
            }
        }
        for (Station s : stations) {
            if (s.saidAt >= 0 && s.saidAt + 28 == t) {
                s.saidAt = -1;
                if (answerTo(latestTelegram()) == 204) {
                    s.said++;
                    s.queue.remove();
                } else if (s.queue.peek().said == 4) {
                    s.lost++;
                    s.queue.remove();
                }
            }
        }
    }

    /** All that is complete in a row of bits, the first of which is that of bit time 1. */
    private static List<Thing> read(CharSequence bits) {
        List<Thing> all = new ArrayList<>();
        int n = bits.length() - 1;
        int i = 1;
        while (i <= n) {
            if (bits.charAt(i) == '1') {
                i++;
                continue;
            }
            Thing thing = new Thing();
            thing.begun = i;
            int character = i;
            int next = -1;
            while (next < 0) {
                if (character + 10 > n) {
                    return all;
                }
                int v = 0;
                int ones = 0;
                for (int k = 1; k <= 9; k++) {
                    int bit = bits.charAt(character + k) - '0';
                    ones += bit;
                    v |= k <= 8 ? bit << k - 1 : 0;
                }
                thing.bytes.add(v);
                thing.bad |= ones % 2 != 0 || bits.charAt(character + 10) == '0';
                thing.end = character + 10;
                int behind = 1;
                while (behind <= 3 && thing.end + behind <= n && bits.charAt(thing.end + behind) == '1') {
                    behind++;
                }
                if (behind <= 3 && thing.end + behind > n) {
                    return all;
                }
                if (behind == 3) {
                    character = thing.end + 3;
                } else if (behind < 3) {
                    next = thing.end + behind;
                    thing.completeAt = next;
                } else {
                    next = thing.end + 4;
                    thing.completeAt = thing.end + 3;
                }
            }
            all.add(thing);
            i = next;
        }
        return all;
    }
}
