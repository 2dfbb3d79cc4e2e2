import java.util.ArrayList;
import java.util.HashMap;
import java.util.HashSet;
import java.util.List;
import java.util.Map;
import java.util.Set;
import java.util.TreeMap;
import java.util.TreeSet;

/** A finding once more, told in another way: by pieces and the rings along them, with areas as shoelaces tell them. */
final class PlanModel {
    static final class Line {
        int x0;
        int y0;
        int x1;
        int y1;
        final List<int[]> doors = new ArrayList<>();

        Line(int x0, int y0, int x1, int y1) {
            this.x0 = Math.min(x0, x1);
            this.y0 = Math.min(y0, y1);
            this.x1 = Math.max(x0, x1);
            this.y1 = Math.max(y0, y1);
        }

        boolean has(int x, int y) {
            return x >= x0 && x <= x1 && y >= y0 && y <= y1;
        }

        int length() {
            return x1 - x0 + y1 - y0;
        }
    }

    static final class Side {
        int line;
        int fromX;
        int fromY;
        int toX;
        int toY;
        Ring ring;
        Side reverse;

        int direction() {
            return toX > fromX ? 0 : toY > fromY ? 1 : toX < fromX ? 2 : 3;
        }

        int length() {
            return Math.abs(toX - fromX) + Math.abs(toY - fromY);
        }
    }

    static final class Ring {
        final List<Side> sides = new ArrayList<>();
        int space;

        /** Twice the area to the left; below 0 if the ring goes round what stands in a space. */
        long shoelace() {
            long sum = 0;
            for (Side s : sides) {
                sum += (long) s.fromX * s.toY - (long) s.toX * s.fromY;
            }
            return sum;
        }

        int least() {
            int least = Integer.MAX_VALUE;
            for (Side s : sides) {
                least = Math.min(least, s.fromX * 100 + s.fromY);
            }
            return least;
        }

        /** Whether the middle of a cell, or a point a little off the whole ones, is inside. */
        boolean encloses(double x, double y) {
            boolean in = false;
            for (Side s : sides) {
                if (s.fromX == s.toX && s.fromX > x && Math.min(s.fromY, s.toY) < y && y < Math.max(s.fromY, s.toY)) {
                    in = !in;
                }
            }
            return in;
        }
    }

    final List<Line> lines = new ArrayList<>();
    final List<List<Ring>> spaces = new ArrayList<>();
    final List<Ring> outside = new ArrayList<>();
    final Set<Integer> points = new TreeSet<>();
    final List<Side> sides = new ArrayList<>();

    /** Whether a line would have more than a point in common with another one along it. */
    boolean overlaps(Line line, Line except) {
        for (Line other : lines) {
            if (other != except) {
                int common = 0;
                for (int x = line.x0; x <= line.x1; x++) {
                    for (int y = line.y0; y <= line.y1; y++) {
                        common += other.has(x, y) ? 1 : 0;
                    }
                }
                if (common > 1) {
                    return true;
                }
            }
        }
        return false;
    }

    void find() {
        points.clear();
        sides.clear();
        spaces.clear();
        outside.clear();
        for (Line a : lines) {
            points.add(a.x0 * 100 + a.y0);
            points.add(a.x1 * 100 + a.y1);
            for (Line b : lines) {
                if (a.x0 == a.x1 && b.y0 == b.y1 && a.has(a.x0, b.y0) && b.has(a.x0, b.y0)) {
                    points.add(a.x0 * 100 + b.y0);
                }
            }
        }
        for (int k = 0; k < lines.size(); k++) {
            int last = -1;
            for (int p : points) {
                if (lines.get(k).has(p / 100, p % 100)) {
                    if (last >= 0) {
                        addPiece(k, last, p);
                    }
                    last = p;
                }
            }
        }
        List<Ring> rings = new ArrayList<>();
        for (Side s : sides) {
            if (s.ring == null) {
                rings.add(ringFrom(s));
            }
        }
        sortIntoSpaces(rings);
    }

    private void addPiece(int line, int from, int to) {
        Side there = new Side();
        there.line = line;
        there.fromX = from / 100;
        there.fromY = from % 100;
        there.toX = to / 100;
        there.toY = to % 100;
        Side back = new Side();
        back.line = line;
        back.fromX = there.toX;
        back.fromY = there.toY;
        back.toX = there.fromX;
        back.toY = there.fromY;
        there.reverse = back;
        back.reverse = there;
        sides.add(there);
        sides.add(back);
    }

    private Ring ringFrom(Side first) {
        Ring ring = new Ring();
        Side s = first;
        do {
            s.ring = ring;
            ring.sides.add(s);
            s = next(s);
        } while (s != first);
        return ring;
    }

    private Side next(Side s) {
        int[] order = {1, 0, 3, 2};
        for (int turn : order) {
            for (Side t : sides) {
                if (t.fromX == s.toX && t.fromY == s.toY && t.direction() == (s.direction() + turn) % 4) {
                    return t;
                }
            }
        }
        throw new AssertionError("no side goes on");
    }

    /** A ring with area to its left is one round a space; the others belong to the least such ring that has them inside. */
    private void sortIntoSpaces(List<Ring> rings) {
        TreeMap<Integer, Ring> outer = new TreeMap<>();
        TreeMap<Integer, Ring> inner = new TreeMap<>();
        for (Ring r : rings) {
            turnToBeginning(r);
            (r.shoelace() > 0 ? outer : inner).put(r.least(), r);
        }
        for (Ring r : outer.values()) {
            r.space = spaces.size();
            List<Ring> own = new ArrayList<>();
            own.add(r);
            spaces.add(own);
        }
        for (Ring r : inner.values()) {
            Ring home = null;
            for (Ring o : outer.values()) {
                boolean inside = o.encloses(r.least() / 100 - 0.01, r.least() % 100 - 0.02);
                if (inside && (home == null || o.shoelace() < home.shoelace())) {
                    home = o;
                }
            }
            r.space = home == null ? -1 : home.space;
            (home == null ? outside : spaces.get(home.space)).add(r);
        }
    }

    private static void turnToBeginning(Ring r) {
        Side begin = null;
        for (Side s : r.sides) {
            boolean least = s.fromX * 100 + s.fromY == r.least();
            if (least && (begin == null || s.direction() < begin.direction())) {
                begin = s;
            }
        }
        List<Side> turned = new ArrayList<>();
        int at = r.sides.indexOf(begin);
        for (int k = 0; k < r.sides.size(); k++) {
            turned.add(r.sides.get((at + k) % r.sides.size()));
        }
        r.sides.clear();
        r.sides.addAll(turned);
    }

    int area(int space) {
        long twice = 0;
        for (Ring r : spaces.get(space)) {
            twice += r.shoelace();
        }
        return (int) (twice / 2);
    }

    int edge(int space) {
        int all = 0;
        for (Ring r : spaces.get(space)) {
            for (Side s : r.sides) {
                all += s.length();
            }
        }
        return all;
    }

    /** The space of the least ring that has the middle of a cell inside. */
    int at(int x, int y) {
        Ring home = null;
        for (List<Ring> own : spaces) {
            Ring r = own.get(0);
            if (r.encloses(x + 0.5, y + 0.5) && (home == null || r.shoelace() < home.shoelace())) {
                home = r;
            }
        }
        return home == null ? -1 : home.space;
    }

    int between(int a, int b) {
        int all = 0;
        for (Side s : sides) {
            boolean is = s.ring.space == a && s.reverse.ring.space == b;
            all += is ? s.length() : 0;
        }
        return a == b ? all / 2 : all;
    }

    int sidesOfOutside() {
        int all = 0;
        for (Ring r : outside) {
            all += r.sides.size();
        }
        return all;
    }

    /** Portals, and what joins a room with itself: line, door, A, B, the first place of the part. */
    List<int[]> joints() {
        List<int[]> all = new ArrayList<>();
        for (int k = 0; k < lines.size(); k++) {
            Line line = lines.get(k);
            for (int d = 0; d < line.doors.size(); d++) {
                int[] door = line.doors.get(d);
                for (Side s : sides) {
                    if (s.line == k && s.direction() < 2) {
                        int from = s.fromX - line.x0 + s.fromY - line.y0;
                        int low = Math.max(from, door[0]);
                        int high = Math.min(from + s.length(), door[1]);
                        if (low < high) {
                            all.add(new int[] {k, d, s.ring.space, s.reverse.ring.space, low});
                        }
                    }
                }
            }
        }
        return all;
    }

    int way(int from, int to) {
        Map<Integer, Set<Integer>> next = new HashMap<>();
        for (int[] j : joints()) {
            next.computeIfAbsent(j[2], k -> new HashSet<>()).add(j[3]);
            next.computeIfAbsent(j[3], k -> new HashSet<>()).add(j[2]);
        }
        Set<Integer> seen = new HashSet<>();
        seen.add(from);
        Set<Integer> now = seen;
        for (int doors = 0; !now.isEmpty(); doors++) {
            if (now.contains(to)) {
                return doors;
            }
            Set<Integer> more = new HashSet<>();
            for (int space : now) {
                more.addAll(next.getOrDefault(space, Set.of()));
            }
            more.removeAll(seen);
            seen.addAll(more);
            now = more;
        }
        return -2;
    }

    /** The names that the spaces of a new finding get from an older one. */
    static int[] namesOn(int[][] oldCells, int[] oldNames, int[][] newCells, int spaces) {
        int[] names = new int[spaces];
        int[] areas = new int[spaces];
        for (int old = 0; old < oldNames.length; old++) {
            int best = -1;
            int most = 0;
            for (int space = 0; space < spaces && oldNames[old] != 0; space++) {
                int common = 0;
                for (int x = 0; x < 24; x++) {
                    for (int y = 0; y < 24; y++) {
                        common += oldCells[x][y] == old && newCells[x][y] == space ? 1 : 0;
                    }
                }
                if (common > most) {
                    most = common;
                    best = space;
                }
            }
            if (best >= 0 && most > areas[best]) {
                areas[best] = most;
                names[best] = oldNames[old];
            }
        }
        return names;
    }

    int[][] cells() {
        int[][] all = new int[24][24];
        for (int x = 0; x < 24; x++) {
            for (int y = 0; y < 24; y++) {
                all[x][y] = at(x, y);
            }
        }
        return all;
    }

    /** Whether one goes from a cell one step; the doors there that are wide enough are those of the line. */
    boolean goes(int x, int y, int dx, int dy, List<int[]> doorsThere) {
        for (int k = 0; k < lines.size(); k++) {
            Line line = lines.get(k);
            boolean upright = line.x0 == line.x1;
            int wallX = x + (dx > 0 ? 1 : 0);
            int wallY = y + (dy > 0 ? 1 : 0);
            boolean isThere = dx != 0 ? upright && line.x0 == wallX && line.y0 <= y && y < line.y1
                : !upright && line.y0 == wallY && line.x0 <= x && x < line.x1;
            if (isThere) {
                int at = dx != 0 ? y - line.y0 : x - line.x0;
                for (int d = 0; d < line.doors.size(); d++) {
                    if (line.doors.get(d)[0] <= at && at < line.doors.get(d)[1]) {
                        doorsThere.add(new int[] {k, d, line.doors.get(d)[2]});
                    }
                }
                return !doorsThere.isEmpty();
            }
        }
        return true;
    }
}
