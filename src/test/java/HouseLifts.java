import java.util.ArrayList;
import java.util.Arrays;
import java.util.List;

/** The lifts of HouseModel: all givings are tried, each with all rows. */
final class HouseLifts {
    /** Of cars: floor, speed, free from, least, greatest, begun. */
    final List<int[]> cars = new ArrayList<>();
    /** Of calls: from, to, since, open (1). */
    final List<int[]> calls = new ArrayList<>();
    /** Of calls: car, pick, set, place; made anew by each giving. */
    private int[][] given = {};
    private List<Integer> best;
    private List<List<Integer>> bestRows;
    private long bestSum;

    List<Integer> open() {
        List<Integer> all = new ArrayList<>();
        for (int k = 0; k < calls.size(); k++) {
            if (calls.get(k)[3] == 1) {
                all.add(k);
            }
        }
        return all;
    }

    private boolean spans(int car, int call) {
        int[] c = cars.get(car);
        int[] l = calls.get(call);
        return l[0] >= c[3] && l[0] <= c[4] && l[1] >= c[3] && l[1] <= c[4];
    }

    boolean begin(int call, int car) {
        if (car >= 0 && (!spans(car, call) || cars.get(car)[5] >= 0 && cars.get(car)[5] != call)) {
            return false;
        }
        for (int k = 0; k < cars.size(); k++) {
            int[] c = cars.get(k);
            c[5] = k == car ? call : c[5] == call ? -1 : c[5];
        }
        return true;
    }

    void done(int call) {
        begin(call, -1);
        calls.get(call)[3] = 0;
    }

    private List<Integer> mayTake(int call, boolean home) {
        List<Integer> all = new ArrayList<>();
        int begunBy = -1;
        for (int k = 0; k < cars.size(); k++) {
            begunBy = cars.get(k)[5] == call ? k : begunBy;
        }
        for (int k = 0; k < cars.size() && !home; k++) {
            if (spans(k, call) && (begunBy < 0 || begunBy == k)) {
                all.add(k);
            }
        }
        return all;
    }

    long give(int time, boolean home) {
        given = new int[calls.size()][];
        List<Integer> takers = new ArrayList<>();
        for (int call : open()) {
            if (!mayTake(call, home).isEmpty()) {
                takers.add(call);
            }
        }
        best = null;
        tryGivings(takers, new ArrayList<>(), time);
        for (int car = 0; car < cars.size(); car++) {
            int place = 0;
            int[][] picks = go(car, bestRows.get(car), time);
            for (int call : bestRows.get(car)) {
                given[call] = new int[] {car, picks[place][0], picks[place][1], place};
                place++;
            }
        }
        return bestSum;
    }

    private void tryGivings(List<Integer> takers, List<Integer> chosen, int time) {
        if (chosen.size() < takers.size()) {
            for (int car : mayTake(takers.get(chosen.size()), false)) {
                chosen.add(car);
                tryGivings(takers, chosen, time);
                chosen.remove(chosen.size() - 1);
            }
            return;
        }
        long sum = 0;
        List<List<Integer>> rows = new ArrayList<>();
        for (int car = 0; car < cars.size(); car++) {
            List<Integer> own = new ArrayList<>();
            for (int k = 0; k < takers.size(); k++) {
                if (chosen.get(k) == car) {
                    own.add(takers.get(k));
                }
            }
            List<Integer> row = leastRow(car, own, new ArrayList<>(), time, null);
            rows.add(row);
            sum += cost(car, row, time);
        }
        if (best == null || sum < bestSum) {
            best = new ArrayList<>(chosen);
            bestRows = rows;
            bestSum = sum;
        }
    }

    private List<Integer> leastRow(int car, List<Integer> own, List<Integer> row, int time, List<Integer> least) {
        if (row.size() == own.size()) {
            boolean begunIsFirst = !own.contains(cars.get(car)[5]) || row.get(0) == cars.get(car)[5];
            boolean less = begunIsFirst && (least == null || cost(car, row, time) < cost(car, least, time));
            return less ? new ArrayList<>(row) : least;
        }
        List<Integer> kept = least;
        for (int call : own) {
            if (!row.contains(call)) {
                row.add(call);
                kept = leastRow(car, own, row, time, kept);
                row.remove(row.size() - 1);
            }
        }
        return kept;
    }

    /** PICK and SET of each call of a row. */
    private int[][] go(int car, List<Integer> row, int time) {
        int[] c = cars.get(car);
        int at = c[0];
        int second = Math.max(time, c[2]);
        int[][] all = new int[row.size()][2];
        for (int k = 0; k < row.size(); k++) {
            int[] call = calls.get(row.get(k));
            second += c[1] * Math.abs(at - call[0]);
            all[k][0] = second - time;
            second += 3 + c[1] * Math.abs(call[1] - call[0]);
            all[k][1] = second - time;
            second += 3;
            at = call[1];
        }
        return all;
    }

    private long cost(int car, List<Integer> row, int time) {
        long cost = 0;
        int[][] picks = go(car, row, time);
        for (int k = 0; k < row.size(); k++) {
            long weight = 1 + (time - calls.get(row.get(k))[2]) / 30;
            cost += weight * picks[k][0] + picks[k][1];
        }
        return cost;
    }

    int given(int call, int what) {
        return call >= given.length || given[call] == null ? -1 : given[call][what];
    }

    @Override
    public String toString() {
        return "cars " + Arrays.deepToString(cars.toArray()) + ", calls " + Arrays.deepToString(calls.toArray());
    }
}
