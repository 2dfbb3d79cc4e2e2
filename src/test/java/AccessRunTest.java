import java.util.ArrayList;
import java.util.HashMap;
import java.util.HashSet;
import java.util.List;
import java.util.Map;
import java.util.Random;
import java.util.Set;

/** Random cards, rights and portals, compared with a model that copies what is known when a portal goes off. */
final class AccessRunTest {
    private AccessRunTest() {
    }

    static void all() {
        Checks.test("P9-13 random askings as in the model", AccessRunTest::randomAskings);
    }

    /** What is told of cards and rights. */
    private static final class Known {
        final List<int[]> cards = new ArrayList<>();
        final List<int[]> rights = new ArrayList<>();
        final Map<Integer, Integer> ends = new HashMap<>();
        final Map<Integer, Integer> losses = new HashMap<>();

        Known copy() {
            Known other = new Known();
            other.cards.addAll(cards);
            other.rights.addAll(rights);
            other.ends.putAll(ends);
            other.losses.putAll(losses);
            return other;
        }
    }

    private static final class Model {
        static final int[][] PORTALS = {{0, 4, 1, 0, 1, -1}, {1, 0, 1, 4, 1, 3}, {3, 2, 5, 4, 5, 3}, {0, 2, 3, 1, 4, 1}, {1, 3, 3, 5, 4, 5}, {3, 4, 7, 6, 8, 6}};
        static final int[] ZONES = {1, 2, 3, 4};
        final Known all = new Known();
        final Known[] off = new Known[6];
        final List<List<int[]>> rows = new ArrayList<>();
        final boolean[] two = new boolean[6];
        final boolean[] open = new boolean[6];
        final int[] since = new int[6];
        final Set<Integer> locks = new HashSet<>();
        final List<int[]> persons = new ArrayList<>();
        final List<int[]> against = new ArrayList<>();
        boolean released;
        int time;

        Model() {
            for (int k = 0; k < 6; k++) {
                rows.add(new ArrayList<>());
            }
        }

        boolean lock(int a, int b, boolean on) {
            int key = Math.min(a, b) * 10 + Math.max(a, b);
            return on ? !locks.add(key) : locks.remove(key);
        }

        int papers(Known known, int card, int minute, int room, boolean askRight) {
            if (card >= known.cards.size()) {
                return 1;
            }
            if (known.cards.get(card)[1] < minute) {
                return 2;
            }
            if (known.losses.getOrDefault(card, Integer.MAX_VALUE) <= minute) {
                return 3;
            }
            return askRight ? right(known, card, minute, room) : 0;
        }

        int right(Known known, int card, int minute, int room) {
            if (room == 4) {
                return 0;
            }
            int group = persons.get(all.cards.get(card)[0])[6];
            for (int k = 0; k < known.rights.size(); k++) {
                int[] r = known.rights.get(k);
                Set<Integer> span = new HashSet<>();
                for (int m = r[2]; m != r[3]; m = (m + 1) % 1440) {
                    span.add(m);
                }
                boolean ended = known.ends.getOrDefault(k, Integer.MAX_VALUE) <= minute;
                if (r[0] == group && r[1] == ZONES[room] && r[4] <= minute && !ended && span.contains(minute % 1440)) {
                    return 0;
                }
            }
            return 5;
        }

        int why(int card, int portal, int room, boolean together) {
            int[] p = persons.get(all.cards.get(card)[0]);
            int[] rooms = PORTALS[portal];
            int other = rooms[0] == room ? rooms[1] : rooms[0];
            if (p[3] >= 0) {
                return 9;
            }
            if (released) {
                return p[0] == other ? 0 : 4;
            }
            Known known = off[portal] == null ? all : off[portal];
            int why = papers(known, card, time / 60, room, false);
            if (why != 0) {
                return why;
            }
            if (off[portal] == null && p[0] != other) {
                return 4;
            }
            if (right(known, card, time / 60, room) != 0) {
                return 5;
            }
            for (int b = 0; b < 6; b++) {
                int key = Math.min(portal, b) * 10 + Math.max(portal, b);
                if (b != portal && open[b] && locks.contains(key)) {
                    return 6;
                }
            }
            return two[portal] && !together ? 7 : 0;
        }

        void enter(int person, int portal, int room) {
            int[] p = persons.get(person);
            int[] d = PORTALS[portal];
            p[0] = room;
            boolean first = d[0] == room;
            p[1] = room == 4 ? -1 : d[first ? 2 : 4];
            p[2] = room == 4 ? -1 : d[first ? 3 : 5];
            p[5] = time;
        }

        void let(int card, int portal, int room) {
            if (off[portal] != null && !released) {
                rows.get(portal).add(new int[] {card, room, time / 60});
            } else {
                enter(all.cards.get(card)[0], portal, room);
            }
        }

        /** -1: an illegal state. */
        int ask(int card, int portal, int room) {
            if (off[portal] != null && rows.get(portal).size() >= 20) {
                return -1;
            }
            int why = why(card, portal, room, false);
            if (why == 0) {
                let(card, portal, room);
            }
            return why;
        }

        int both(int a, int b, int portal, int room) {
            if (off[portal] != null && rows.get(portal).size() > 18) {
                return -1;
            }
            int why = why(a, portal, room, true);
            why = why != 0 ? why : why(b, portal, room, true);
            if (why == 0 && !released && all.cards.get(a)[0] == all.cards.get(b)[0]) {
                why = 8;
            }
            if (why == 0) {
                let(a, portal, room);
                let(b, portal, room);
            }
            return why;
        }

        int join(int portal) {
            if (off[portal] == null) {
                return 0;
            }
            off[portal] = null;
            List<int[]> own = new ArrayList<>(rows.get(portal));
            rows.get(portal).clear();
            for (int[] row : own) {
                int person = all.cards.get(row[0])[0];
                if (persons.get(person)[3] < 0) {
                    enter(person, portal, row[1]);
                }
                int why = papers(all, row[0], row[2], row[1], true);
                if (why != 0) {
                    against.add(new int[] {portal, row[0], row[2], why});
                }
            }
            return own.size();
        }
    }

    private static void randomAskings() {
        int[] seen = new int[10];
        int against = 0;
        for (int seed = 0; seed < 500; seed++) {
            Random r = new Random(70000 + seed);
            TowerHouse x = Houses.four();
            Model m = new Model();
            x.sentence(0, 0, 1, 4, 1);
            x.sentence(1, 0, 0, 0, 0);
            x.sentence(2, 0, 0, 0, 0);
            x.matrix();
            for (int k = 0; k < 5; k++) {
                int group = r.nextInt(2);
                x.person(group, 1);
                m.persons.add(new int[] {4, -1, -1, -1, 0, 0, group});
                tellCard(r, x, m);
                tellRight(r, x, m);
                tellRight(r, x, m);
            }
            for (int step = 0; step < 250; step++) {
                randomCall(r, x, m, seen);
            }
            compare(x, m);
            against += m.against.size();
        }
        for (int k = 0; k < 10; k++) {
            if (seen[k] < 50) {
                throw new AssertionError("too little is seen: " + java.util.Arrays.toString(seen));
            }
        }
        if (against < 100) {
            throw new AssertionError("just " + against + " rows were against");
        }
    }

    private static void tellCard(Random r, TowerHouse x, Model m) {
        if (m.all.cards.size() < 60) {
            int person = r.nextInt(m.persons.size());
            int until = r.nextInt(4) == 0 ? m.time / 60 + r.nextInt(3) : 1000;
            Checks.due(m.all.cards.size(), x.card(person, until));
            m.all.cards.add(new int[] {person, until});
        }
    }

    private static void tellRight(Random r, TowerHouse x, Model m) {
        if (m.all.rights.size() < 16) {
            int[] right = {r.nextInt(2), 1 + r.nextInt(4), r.nextInt(4), r.nextInt(2) == 0 ? 1439 : r.nextInt(6), r.nextInt(5) == 0 ? r.nextInt(8) : 0};
            Checks.due(m.all.rights.size(), x.right(right[0], right[1], right[2], right[3], right[4]));
            m.all.rights.add(right);
        }
    }

    /** Who is caught is asked for, as it is none of this model's business. */
    private static void randomCall(Random r, TowerHouse x, Model m, int[] seen) {
        for (int other = 0; other < m.persons.size(); other++) {
            m.persons.get(other)[3] = x.where(other, 3);
        }
        int portal = r.nextInt(6);
        int other = (portal + 1 + r.nextInt(5)) % 6;
        boolean on = r.nextInt(3) == 0;
        int minute = m.time / 60 + r.nextInt(3) - 1;
        switch (r.nextInt(24)) {
            case 0:
                tellCard(r, x, m);
                break;
            case 1:
                tellRight(r, x, m);
                break;
            case 2:
                int right = r.nextInt(m.all.rights.size());
                if (minute >= 0 && r.nextInt(3) == 0) {
                    Integer before = m.all.ends.put(right, minute + 5 * r.nextInt(2));
                    Checks.due(before == null ? -1 : before, x.end(right, m.all.ends.get(right)));
                }
                break;
            case 3:
                int card = r.nextInt(m.all.cards.size());
                if (minute >= 0 && r.nextInt(2) == 0) {
                    Integer before = m.all.losses.put(card, minute + 5 * r.nextInt(2));
                    Checks.due(before == null ? -1 : before, x.lost(card, m.all.losses.get(card)));
                }
                break;
            case 4:
                Checks.due(m.two[portal], x.two(portal, on));
                m.two[portal] = on;
                break;
            case 5:
                Checks.due(m.lock(portal, other, on), x.airlock(portal, other, on));
                break;
            case 6:
                Checks.due(m.time - m.since[portal], x.stands(portal, on));
                m.since[portal] = m.open[portal] == on ? m.since[portal] : m.time;
                m.open[portal] = on;
                break;
            case 7:
            case 8:
                if (r.nextBoolean()) {
                    Checks.due(0, x.off(portal, true));
                    m.off[portal] = m.off[portal] == null ? m.all.copy() : m.off[portal];
                } else {
                    Checks.due(m.join(portal), x.off(portal, false));
                }
                break;
            case 9:
                passTime(r, x, m);
                break;
            case 10:
                if (r.nextInt(6) == 0) {
                    m.released = !m.released;
                    x.signal(4, m.released ? 100 : 0);
                    x.pass(1);
                    m.time++;
                }
                break;
            case 11:
                catchOne(r, x, m);
                break;
            default:
                askRandomly(r, x, m, portal, seen);
                break;
        }
    }

    private static void passTime(Random r, TowerHouse x, Model m) {
        int seconds = r.nextInt(3) == 0 ? 60 : 1 + r.nextInt(20);
        if (m.time + seconds < 5000) {
            x.pass(seconds);
            m.time += seconds;
        }
    }

    /** A fire where a person stands catches it and all beside it in a second; smoke spreads from then on. */
    private static void catchOne(Random r, TowerHouse x, Model m) {
        int k = r.nextInt(m.persons.size());
        int[] p = m.persons.get(k);
        if (p[0] != 4 && r.nextInt(8) == 0) {
            x.fire(p[1], p[2]);
            x.pass(1);
            m.time++;
        }
    }

    private static void askRandomly(Random r, TowerHouse x, Model m, int portal, int[] seen) {
        int card = r.nextInt(m.all.cards.size());
        int second = (card + 1 + r.nextInt(m.all.cards.size() - 1)) % m.all.cards.size();
        int room = Model.PORTALS[portal][r.nextInt(2)];
        boolean together = r.nextInt(4) == 0;
        int want = together ? m.both(card, second, portal, room) : m.ask(card, portal, room);
        if (want < 0 && together) {
            Checks.state(() -> x.both(card, second, portal, room));
        } else if (want < 0) {
            Checks.state(() -> x.ask(card, portal, room));
        } else {
            Checks.due(want, together ? x.both(card, second, portal, room) : x.ask(card, portal, room));
            seen[want]++;
        }
    }

    private static void compare(TowerHouse x, Model m) {
        int[] inside = new int[10];
        for (int k = 0; k < m.persons.size(); k++) {
            int[] p = m.persons.get(k);
            for (int what = 0; what < 6; what++) {
                if (what != 3) {
                    Checks.due(p[what], x.where(k, what));
                }
            }
            if (p[0] < 4) {
                inside[Model.ZONES[p[0]]]++;
            }
        }
        for (int zone = 0; zone < 10; zone++) {
            Checks.due(inside[zone], x.inside(zone));
        }
        Checks.due(m.against.size(), x.against(-7, 0));
        for (int k = 0; k < Math.min(100, m.against.size()); k++) {
            for (int what = 0; what < 4; what++) {
                Checks.due(m.against.get(k)[what], x.against(k, what + 1));
            }
        }
    }
}
