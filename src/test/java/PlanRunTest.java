import java.util.ArrayList;
import java.util.Arrays;
import java.util.HashMap;
import java.util.List;
import java.util.Map;
import java.util.Random;

/** Random plans, findings, fires and ways out, compared with the model: promises 2 to 6, 9, 27, 28. */
final class PlanRunTest {
    private PlanRunTest() {
    }

    static void all() {
        Checks.test("P2-6 random plans as in the model", PlanRunTest::randomPlans);
        Checks.test("P5-6 random names as in the model", PlanRunTest::randomNames);
        Checks.test("P9 random portals as in the model", PlanRunTest::randomPortals);
        Checks.test("P27-28 random fires and ways out as in the model", PlanRunTest::randomFires);
    }

    private static PlanModel.Line randomLine(Random r, int size) {
        int x = r.nextInt(size + 1);
        int y = r.nextInt(size + 1);
        int to = r.nextInt(size + 1);
        return r.nextBoolean() ? new PlanModel.Line(x, y, x, to == y ? (y + 1) % (size + 1) : to)
            : new PlanModel.Line(x, y, to == x ? (x + 1) % (size + 1) : to, y);
    }

    private static void add(TowerHouse x, PlanModel m, PlanModel.Line line) {
        boolean turned = (line.x0 + line.y1) % 2 == 0;
        int number = turned ? x.line(line.x1, line.y1, line.x0, line.y0) : x.line(line.x0, line.y0, line.x1, line.y1);
        if (m.overlaps(line, null)) {
            Checks.due(-1, number);
        } else {
            Checks.due(m.lines.size(), number);
            m.lines.add(line);
        }
    }

    private static void randomDoor(Random r, TowerHouse x, PlanModel m) {
        int k = r.nextInt(m.lines.size());
        PlanModel.Line line = m.lines.get(k);
        if (line.doors.size() < 6) {
            int from = r.nextInt(line.length());
            int to = from + 1 + r.nextInt(Math.min(3, line.length() - from));
            int rate = 1 + r.nextInt(2);
            line.doors.add(new int[] {from, to, rate});
            Checks.due(line.doors.size(), x.door(k, from, to, rate));
        }
    }

    private static void randomMove(Random r, TowerHouse x, PlanModel m) {
        int k = r.nextInt(m.lines.size());
        PlanModel.Line line = m.lines.get(k);
        int dx = r.nextInt(5) - 2;
        int dy = r.nextInt(5) - 2;
        PlanModel.Line moved = new PlanModel.Line(line.x0 + dx, line.y0 + dy, line.x1 + dx, line.y1 + dy);
        if (moved.x0 < 0 || moved.y0 < 0 || moved.x1 > 24 || moved.y1 > 24) {
            Checks.argument(() -> x.move(k, dx, dy));
        } else if (m.overlaps(moved, line)) {
            Checks.due(false, x.move(k, dx, dy));
        } else {
            Checks.due(true, x.move(k, dx, dy));
            line.x0 = moved.x0;
            line.y0 = moved.y0;
            line.x1 = moved.x1;
            line.y1 = moved.y1;
        }
    }

    private static void randomPlan(Random r, TowerHouse x, PlanModel m, int size) {
        int lines = 6 + r.nextInt(14);
        // With less room lines meet more often; a frame makes spaces sure.
        if (r.nextBoolean()) {
            add(x, m, new PlanModel.Line(0, 0, size, 0));
            add(x, m, new PlanModel.Line(0, size, size, size));
            add(x, m, new PlanModel.Line(0, 0, 0, size));
            add(x, m, new PlanModel.Line(size, 0, size, size));
        }
        for (int k = 0; k < 60 && m.lines.size() < lines; k++) {
            add(x, m, randomLine(r, size));
        }
    }

    private static void compare(TowerHouse x, PlanModel m) {
        m.find();
        Checks.due(m.spaces.size(), x.find());
        Checks.due(m.spaces.size(), x.count(0));
        Checks.due(m.points.size(), x.count(1));
        Checks.due(m.sides.size() / 2, x.count(2));
        Checks.due(m.sidesOfOutside(), x.count(3));
        for (int space = 0; space < m.spaces.size(); space++) {
            List<PlanModel.Ring> rings = m.spaces.get(space);
            Checks.due(m.area(space), x.size(space, 0));
            Checks.due(m.edge(space), x.size(space, 1));
            Checks.due(rings.size(), x.size(space, 2));
            for (int ring = 0; ring < rings.size(); ring++) {
                List<PlanModel.Side> sides = rings.get(ring).sides;
                Checks.due(sides.size(), x.sides(space, ring));
                for (int k = 0; k < sides.size(); k++) {
                    PlanModel.Side s = sides.get(k);
                    Checks.row(Checks.of(s.line, s.fromX, s.fromY, s.toX, s.toY, s.reverse.ring.space), PlanTest.side(x, space, ring, k));
                }
            }
            Checks.due(0, x.sides(space, rings.size()));
            for (int other = -1; other < m.spaces.size(); other++) {
                Checks.due(m.between(space, other), x.between(space, other));
                Checks.due(m.way(space, other), x.way(space, other));
                Checks.due(m.way(other, space), x.way(other, space));
            }
        }
        for (int cx = 0; cx < 24; cx++) {
            for (int cy = 0; cy < 24; cy++) {
                Checks.due(m.at(cx, cy), x.at(cx, cy));
            }
        }
    }

    private static void randomPlans() {
        int most = 0;
        for (int seed = 0; seed < 150; seed++) {
            Random r = new Random(seed);
            TowerHouse x = new TowerHouse();
            PlanModel m = new PlanModel();
            randomPlan(r, x, m, seed % 3 == 0 ? 24 : 6 + seed % 7);
            for (int k = 0; k < 12; k++) {
                randomDoor(r, x, m);
            }
            compare(x, m);
            randomMove(r, x, m);
            randomMove(r, x, m);
            compare(x, m);
            most = Math.max(most, m.spaces.size());
        }
        // The greatest plan there is.
        TowerHouse x = new TowerHouse();
        PlanModel m = new PlanModel();
        for (int k = 0; k < 10; k++) {
            add(x, m, new PlanModel.Line(0, 2 + 2 * k, 24, 2 + 2 * k));
            add(x, m, new PlanModel.Line(1 + 2 * k, 0, 1 + 2 * k, 24));
        }
        compare(x, m);
        Checks.due(81, m.spaces.size());
        Checks.due(220, m.sides.size() / 2);
    }

    private static void randomNames() {
        for (int seed = 0; seed < 100; seed++) {
            Random r = new Random(1000 + seed);
            TowerHouse x = new TowerHouse();
            PlanModel m = new PlanModel();
            randomPlan(r, x, m, 6 + seed % 5);
            int[][] cells = new int[24][24];
            int[] names = new int[0];
            for (int round = 0; round < 8; round++) {
                m.find();
                Checks.due(m.spaces.size(), x.find());
                int[][] now = m.cells();
                names = PlanModel.namesOn(cells, names, now, m.spaces.size());
                cells = now;
                for (int space = 0; space < names.length; space++) {
                    Checks.due(names[space], x.nameOf(space));
                    if (r.nextInt(2) == 0) {
                        int name = r.nextInt(4) == 0 ? 0 : r.nextInt(1001);
                        Checks.due(names[space], x.name(space, name));
                        names[space] = name;
                    }
                }
                for (int k = 0; k < 3; k++) {
                    randomMove(r, x, m);
                }
            }
        }
    }

    private static boolean mayBeBuilt(PlanModel m) {
        m.find();
        return !m.spaces.isEmpty() && m.spaces.size() <= 40;
    }

    private static void randomPortals() {
        for (int seed = 0; seed < 150; seed++) {
            Random r = new Random(2000 + seed);
            TowerHouse x = new TowerHouse();
            PlanModel m = new PlanModel();
            randomPlan(r, x, m, seed % 3 == 0 ? 24 : 5 + seed % 7);
            for (int k = 0; k < 20; k++) {
                randomDoor(r, x, m);
            }
            x.find();
            if (!mayBeBuilt(m)) {
                Checks.state(() -> x.build(0));
                continue;
            }
            List<int[]> portals = new ArrayList<>();
            for (int[] j : m.joints()) {
                if (j[2] != j[3]) {
                    portals.add(j);
                }
            }
            Checks.due(portals.size(), x.build(0));
            int n = m.spaces.size();
            for (int p = 0; p < portals.size(); p++) {
                int[] j = portals.get(p);
                PlanModel.Line line = m.lines.get(j[0]);
                boolean upright = line.x0 == line.x1;
                int cx = upright ? line.x0 - 1 : line.x0 + j[4];
                int cy = upright ? line.y0 + j[4] : line.y0;
                long[] want = {j[2] < 0 ? n : j[2], j[3] < 0 ? n : j[3], j[0], j[1], cx, cy};
                for (int what = 0; what < 6; what++) {
                    Checks.due(want[what], x.portal(p, what));
                }
            }
        }
    }

    private static final int[][] LOOKS = {{1, 0}, {-1, 0}, {0, 1}, {0, -1}};

    /** A house with persons and a fire, cell by cell. */
    private static final class FireModel {
        final PlanModel plan;
        final int[][] rooms;
        boolean[][] smoke = new boolean[24][24];
        final int[][] numbers = new int[24][24];
        final List<int[]> persons = new ArrayList<>();
        int time;

        FireModel(PlanModel plan) {
            this.plan = plan;
            rooms = plan.cells();
            for (int[] row : numbers) {
                Arrays.fill(row, -1);
            }
            for (int number = 1; number <= 576; number++) {
                List<int[]> now = new ArrayList<>();
                for (int x = 0; x < 24; x++) {
                    for (int y = 0; y < 24; y++) {
                        if (rooms[x][y] >= 0 && numbers[x][y] == -1 && hasNext(x, y, number)) {
                            now.add(new int[] {x, y});
                        }
                    }
                }
                for (int[] c : now) {
                    numbers[c[0]][c[1]] = number;
                }
            }
        }

        int roomOf(int x, int y) {
            return x < 0 || y < 0 || x > 23 || y > 23 ? -1 : rooms[x][y];
        }

        boolean hasNext(int x, int y, int number) {
            for (int[] look : LOOKS) {
                int room = roomOf(x + look[0], y + look[1]);
                boolean fits = number == 1 ? room < 0 : room >= 0 && numbers[x + look[0]][y + look[1]] == number - 1;
                if (fits && plan.goes(x, y, look[0], look[1], new ArrayList<>())) {
                    return true;
                }
            }
            return false;
        }

        void second(boolean leave) {
            time++;
            if (time % 10 == 0) {
                boolean[][] next = new boolean[24][24];
                for (int x = 0; x < 24; x++) {
                    for (int y = 0; y < 24; y++) {
                        next[x][y] = smoke[x][y];
                        for (int[] look : LOOKS) {
                            int nx = x + look[0];
                            int ny = y + look[1];
                            boolean on = nx >= 0 && ny >= 0 && nx < 24 && ny < 24 && smoke[nx][ny];
                            next[x][y] |= on && plan.goes(x, y, look[0], look[1], new ArrayList<>());
                        }
                    }
                }
                smoke = next;
            }
            for (int[] p : persons) {
                if (p[0] >= 0 && p[3] < 0 && smoke[p[1]][p[2]]) {
                    p[3] = time;
                }
            }
            if (leave) {
                leave();
            }
        }

        /** Persons are room, x, y, caught, steps, since, pace. */
        private void leave() {
            List<int[]> going = new ArrayList<>();
            for (int[] p : persons) {
                if (p[0] >= 0 && p[3] < 0 && time - p[5] >= p[6]) {
                    going.add(p);
                }
            }
            Map<int[], Integer> urgency = new HashMap<>();
            for (int[] p : going) {
                int number = numbers[p[1]][p[2]];
                urgency.put(p, number < 0 ? 9999 : number);
            }
            going.sort((a, b) -> Integer.compare(urgency.get(a), urgency.get(b)));
            Map<Integer, Integer> went = new HashMap<>();
            for (int[] p : going) {
                for (int[] look : LOOKS) {
                    if (step(p, look, went)) {
                        break;
                    }
                }
            }
        }

        private boolean step(int[] p, int[] look, Map<Integer, Integer> went) {
            int nx = p[1] + look[0];
            int ny = p[2] + look[1];
            int own = numbers[p[1]][p[2]];
            int room = roomOf(nx, ny);
            boolean fits = room < 0 ? own == 1 : numbers[nx][ny] >= 0 && numbers[nx][ny] < own;
            boolean beyond = nx < 0 || ny < 0 || nx > 23 || ny > 23;
            List<int[]> doors = new ArrayList<>();
            if (!fits || !beyond && smoke[nx][ny] || !plan.goes(p[1], p[2], look[0], look[1], doors)) {
                return false;
            }
            boolean through = doors.isEmpty();
            for (int[] door : doors) {
                int key = door[0] * 10 + door[1];
                if (!through && went.getOrDefault(key, 0) < door[2]) {
                    went.merge(key, 1, Integer::sum);
                    through = true;
                }
            }
            if (!through) {
                return false;
            }
            p[0] = room;
            p[1] = room < 0 ? -1 : nx;
            p[2] = room < 0 ? -1 : ny;
            p[4]++;
            p[5] = time;
            return true;
        }
    }

    /** Rows of portals that are off bring persons in anywhere when these join again. */
    private static void bringIn(Random r, TowerHouse x, FireModel f, int portals, int n) {
        for (int k = 0; k < 25; k++) {
            int pace = 1 + r.nextInt(3);
            x.card(x.person(0, pace), 1000000);
            f.persons.add(new int[] {-1, -1, -1, -1, 0, 0, pace});
        }
        for (int portal = 0; portal < portals; portal++) {
            x.off(portal, true);
        }
        int[] rows = new int[portals];
        for (int k = 0; k < 25; k++) {
            int portal = r.nextInt(portals);
            int room = x.portal(portal, r.nextInt(2));
            rows[portal]++;
            if (rows[portal] <= 20) {
                Checks.due(0, x.ask(k, portal, room));
            }
        }
        for (int portal = 0; portal < portals; portal++) {
            x.off(portal, false);
        }
        for (int k = 0; k < 25; k++) {
            int[] p = f.persons.get(k);
            p[0] = x.where(k, 0) == n ? -1 : x.where(k, 0);
            p[1] = x.where(k, 1);
            p[2] = x.where(k, 2);
        }
    }

    private static void randomFires() {
        int built = 0;
        int out = 0;
        int caught = 0;
        for (int seed = 0; seed < 200; seed++) {
            Random r = new Random(3000 + seed);
            TowerHouse x = new TowerHouse();
            PlanModel m = new PlanModel();
            int size = seed % 3 == 0 ? 24 : 5 + seed % 7;
            randomPlan(r, x, m, size);
            for (int k = 0; k < 20; k++) {
                randomDoor(r, x, m);
            }
            x.find();
            if (!mayBeBuilt(m) || x.build(0) == 0) {
                continue;
            }
            built++;
            int n = m.spaces.size();
            FireModel f = new FireModel(m);
            x.right(0, 0, 0, 1439, 0);
            bringIn(r, x, f, x.told(0), n);
            x.sentence(0, 0, 1, n, 1);
            x.sentence(1, 0, 4, 0, 0);
            x.sentence(2, 0, 0, 0, 0);
            Checks.due(1, x.matrix());
            boolean leave = r.nextInt(4) > 0;
            x.signal(n, leave ? 100 : 0);
            compareHouse(x, f, n);
            for (int step = 0; step < 12; step++) {
                if (r.nextInt(3) > 0 && step < 4) {
                    int fx = r.nextInt(size);
                    int fy = r.nextInt(size);
                    Checks.due(!f.smoke[fx][fy], x.fire(fx, fy));
                    f.smoke[fx][fy] = true;
                }
                int seconds = 1 + r.nextInt(6);
                x.pass(seconds);
                for (int k = 0; k < seconds; k++) {
                    f.second(leave);
                }
                compareHouse(x, f, n);
            }
            for (int[] p : f.persons) {
                out += p[4] > 0 && p[0] < 0 ? 1 : 0;
                caught += p[3] >= 0 ? 1 : 0;
            }
        }
        if (built < 50 || out < 100 || caught < 100) {
            throw new AssertionError("too little happens: " + built + " houses, " + out + " out, " + caught + " caught");
        }
    }

    private static void compareHouse(TowerHouse x, FireModel f, int n) {
        int smoky = 0;
        int free = 0;
        for (int k = 0; k < f.persons.size(); k++) {
            int[] p = f.persons.get(k);
            long[] want = {p[0] < 0 ? n : p[0], p[1], p[2], p[3], p[4], p[5]};
            for (int what = 0; what < 6; what++) {
                Checks.due(want[what], x.where(k, what));
            }
            free += p[0] >= 0 && p[3] < 0 ? 1 : 0;
        }
        for (int cx = 0; cx < 24; cx++) {
            for (int cy = 0; cy < 24; cy++) {
                Checks.due(f.smoke[cx][cy] ? 1 : 0, x.cell(cx, cy, 0));
                Checks.due(f.numbers[cx][cy], x.cell(cx, cy, 1));
                int here = 0;
                for (int[] p : f.persons) {
                    here += p[1] == cx && p[2] == cy && p[3] < 0 ? 1 : 0;
                }
                Checks.due(here, x.cell(cx, cy, 2));
                smoky += f.smoke[cx][cy] ? 1 : 0;
            }
        }
        Checks.due(smoky, x.told(3));
        Checks.due(free, x.told(1));
    }
}
