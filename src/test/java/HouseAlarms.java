import java.util.ArrayList;
import java.util.List;
import java.util.Map;
import java.util.TreeMap;

/** The matrix of HouseModel: points, zones, acts, events. */
final class HouseAlarms {
    interface Happening {
        void happened(int act, boolean done);
    }

    static final class Zone {
        int needs;
        List<Integer> points = new ArrayList<>();
    }

    static final class Act {
        int kind;
        int rank;
        int delay;
        boolean latches;
        int state;
        int since;
        boolean looked;
        boolean confirmed;
    }

    final int[] values;
    final boolean[] faulty;
    final int[] until;
    Map<Integer, Zone> zones = new TreeMap<>();
    Map<Integer, Act> acts = new TreeMap<>();
    /** One zone or two, then the act. */
    List<int[]> rows = new ArrayList<>();
    final List<int[]> events = new ArrayList<>();

    HouseAlarms(int rooms) {
        values = new int[rooms + 10];
        faulty = new boolean[rooms + 10];
        until = new int[rooms + 10];
    }

    private boolean counts(int point, int time) {
        return !faulty[point] && time >= until[point];
    }

    int on(int zone, int time) {
        int all = 0;
        for (int point : zones.get(zone).points) {
            all += counts(point, time) && values[point] >= 50 ? 1 : 0;
        }
        return all;
    }

    boolean isOn(int zone, int time) {
        return on(zone, time) >= zones.get(zone).needs;
    }

    boolean isSure(int zone, int time) {
        int counted = 0;
        for (int point : zones.get(zone).points) {
            counted += counts(point, time) ? 1 : 0;
        }
        return counted > 0 && counted == on(zone, time);
    }

    /** 0 not called, 1 called, 2 called by a row with a sure zone. */
    private int call(int act, int time) {
        int most = 0;
        for (int[] row : rows) {
            boolean met = row[row.length - 1] == act;
            boolean sure = false;
            for (int k = 0; k < row.length - 1; k++) {
                met &= isOn(row[k], time);
                sure |= isSure(row[k], time);
            }
            most = Math.max(most, met ? sure ? 2 : 1 : 0);
        }
        return most;
    }

    List<Integer> turn() {
        List<Integer> all = new ArrayList<>(acts.keySet());
        all.sort((a, b) -> acts.get(b).rank - acts.get(a).rank);
        return all;
    }

    void second(int time, Happening h) {
        for (int k : turn()) {
            Act a = acts.get(k);
            int call = call(k, time);
            if (call == 0) {
                if (a.state == 2 && !a.latches) {
                    happen(k, false, time, h);
                }
                a.state = a.state == 1 ? 0 : a.state;
                continue;
            }
            if (a.state == 0) {
                a.state = 1;
                a.since = time;
                a.looked = false;
                a.confirmed = false;
            }
            if (a.state == 1 && (time - a.since >= a.delay || call == 2 || a.confirmed)) {
                happen(k, true, time, h);
            }
        }
    }

    private void happen(int act, boolean done, int time, Happening h) {
        acts.get(act).state = done ? 2 : 0;
        events.add(new int[] {time, act, done ? 1 : 0});
        h.happened(act, done);
    }

    int attend(int what, int time) {
        int all = 0;
        for (Act a : acts.values()) {
            if (a.state == 1 && what == 0 && !a.looked) {
                a.looked = true;
                a.since = time;
                all++;
            }
            if (a.state == 1 && what == 1 && !a.confirmed) {
                a.confirmed = true;
                all++;
            }
        }
        return all;
    }

    int reset(int time, Happening h) {
        int all = 0;
        for (int k : turn()) {
            Act a = acts.get(k);
            if (a.latches && a.state == 2 && call(k, time) == 0) {
                happen(k, false, time, h);
                all++;
            }
        }
        return all;
    }

    boolean anyDone(int kind) {
        for (Act a : acts.values()) {
            if (a.kind == kind && a.state == 2) {
                return true;
            }
        }
        return false;
    }

    int done() {
        int all = 0;
        for (Act a : acts.values()) {
            all += a.state == 2 ? 1 : 0;
        }
        return all;
    }
}
