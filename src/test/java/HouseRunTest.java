import java.util.ArrayList;
import java.util.Arrays;
import java.util.HashMap;
import java.util.List;
import java.util.Map;
import java.util.Random;

/**
 * Whole houses at random, each used for 512 calls at most, compared with HouseModel: what fire does to detectors, acts to
 * portals, lifts, the bus, the program and persons, telegrams to points, and blocks to switches.
 */
final class HouseRunTest {
    private static final int CALLS = 512;

    private final Random r;
    private final TowerHouse x = new TowerHouse();
    private final PlanModel plan = new PlanModel();
    private HouseModel m;
    private int calls;
    private final StringBuilder log = new StringBuilder();
    private final Map<String, Integer> seen;

    private HouseRunTest(int seed, Map<String, Integer> seen) {
        r = new Random(seed);
        this.seen = seen;
    }

    static void all() {
        Checks.test("P8-28 whole houses at random as in the model", () -> runs(0, 500));
    }

    /** More of them: java HouseRunTest FIRST COUNT. */
    public static void main(String[] args) {
        runs(Integer.parseInt(args[0]), Integer.parseInt(args[1]));
    }

    private static final String[] TO_BE_SEEN = {"built", "done 0", "done 1", "done 2", "done 3", "done 4", "latched", "ask 0", "ask 2", "ask 3",
        "ask 4", "ask 5", "ask 6", "ask 7", "ask 9", "row", "against", "released ask", "caught", "out", "steps", "give", "give at home", "failed 1",
        "failed 2", "failed 3", "ring", "said", "lost telegram", "stopped", "noise", "point by bus", "bound", "two in a cell"};

    private static void runs(int first, int count) {
        Map<String, Integer> seen = new HashMap<>();
        for (int seed = first; seed < first + count; seed++) {
            HouseRunTest run = new HouseRunTest(seed, seen);
            try {
                run.run();
            } catch (AssertionError | RuntimeException e) {
                throw new AssertionError("seed " + seed + ": " + e.getMessage() + " behind" + run.log, e);
            }
        }
        for (String what : TO_BE_SEEN) {
            if (count >= 500 && seen.getOrDefault(what, 0) < 20) {
                throw new AssertionError("too little is seen of '" + what + "': " + seen);
            }
        }
    }

    private void note(String what) {
        seen.merge(what, 1, Integer::sum);
    }

    private void due(String call, long want, long got) {
        calls++;
        log.append("\n").append(call).append(" = ").append(got);
        if (want != got) {
            throw new AssertionError(call + " answered " + got + ", due is " + want);
        }
    }

    private void due(String call, boolean want, boolean got) {
        due(call, want ? 1 : 0, got ? 1 : 0);
    }

    private void refused(String call, Class<?> want, Checks.Body body) {
        calls++;
        Class<?> got = null;
        try {
            body.run();
        } catch (Exception e) {
            got = e.getClass();
        }
        log.append("\n").append(call).append(" throws");
        if (got != want) {
            throw new AssertionError(call + " threw " + got + ", due is " + want);
        }
    }

    private void run() {
        drawPlan();
        due("find", plan.spaces.size(), x.find());
        int n = plan.spaces.size();
        if (n == 0 || n > 40) {
            refused("build", IllegalStateException.class, () -> x.build(0));
            return;
        }
        int[] names = new int[n];
        for (int k = 0; k < n; k++) {
            names[k] = r.nextInt(6) == 0 ? 0 : 1 + r.nextInt(30);
            if (names[k] != 0) {
                due("name " + k + " " + names[k], 0, x.name(k, names[k]));
            }
        }
        m = new HouseModel(plan, names);
        due("build", m.portals.size(), x.build(0));
        note("built");
        people();
        if (r.nextInt(8) > 0) {
            program();
        }
        matrix();
        for (int k = 0; k < 12; k++) {
            listen();
        }
        while (calls < CALLS - 1) {
            if (r.nextInt(3) == 0) {
                look();
            } else {
                act();
            }
        }
    }

    // ---- the plan

    private void drawPlan() {
        int size = 4 + r.nextInt(6);
        int dx = r.nextInt(3) == 0 ? 24 - size : r.nextInt(3);
        int dy = r.nextInt(3) == 0 ? 24 - size : r.nextInt(3);
        line(dx, dy, dx + size, dy);
        line(dx, dy + size, dx + size, dy + size);
        line(dx, dy, dx, dy + size);
        line(dx + size, dy, dx + size, dy + size);
        int lines = 5 + r.nextInt(7);
        for (int k = 0; k < 30 && plan.lines.size() < lines; k++) {
            int at = 1 + r.nextInt(size - 1);
            int from = r.nextInt(3) > 0 ? 0 : r.nextInt(size);
            int to = r.nextInt(3) > 0 ? size : from + 1 + r.nextInt(size - from);
            if (r.nextBoolean()) {
                line(dx + at, dy + from, dx + at, dy + to);
            } else {
                line(dx + from, dy + at, dx + to, dy + at);
            }
        }
        for (int k = 0; k < 14; k++) {
            door();
        }
        plan.find();
    }

    private void line(int x0, int y0, int x1, int y1) {
        PlanModel.Line line = new PlanModel.Line(x0, y0, x1, y1);
        boolean along = plan.overlaps(line, null);
        due("line " + x0 + " " + y0 + " " + x1 + " " + y1, along ? -1 : plan.lines.size(), x.line(x0, y0, x1, y1));
        if (!along) {
            plan.lines.add(line);
        }
    }

    private void door() {
        int k = r.nextInt(plan.lines.size());
        PlanModel.Line line = plan.lines.get(k);
        if (line.doors.size() < 6) {
            int from = r.nextInt(line.length());
            int to = from + 1 + r.nextInt(Math.min(4, line.length() - from));
            int rate = 1 + r.nextInt(r.nextInt(3) + 1);
            line.doors.add(new int[] {from, to, rate});
            due("door " + k + " " + from + " " + to + " " + rate, line.doors.size(), x.door(k, from, to, rate));
        }
    }

    // ---- what is told at first

    private void people() {
        for (int k = 3 + r.nextInt(6); k > 0; k--) {
            int group = r.nextInt(2);
            int pace = 1 + r.nextInt(3);
            due("person " + group + " " + pace, m.persons.size(), x.person(group, pace));
            m.person(group, pace);
            card();
        }
        for (int k = 0; k < 5; k++) {
            right();
        }
    }

    private void card() {
        int person = r.nextInt(m.persons.size());
        int until = r.nextInt(4) == 0 ? r.nextInt(5) : 1000;
        if (m.cards.size() < 60) {
            due("card " + person + " " + until, m.cards.size(), x.card(person, until));
            m.card(person, until);
        }
    }

    private void right() {
        int group = r.nextInt(2);
        int zone = m.zones[r.nextInt(m.n)];
        int from = r.nextInt(3) > 0 ? 0 : r.nextInt(5);
        int to = r.nextInt(3) > 0 ? 1439 : r.nextInt(8);
        int since = r.nextInt(4) == 0 ? r.nextInt(5) : 0;
        if (m.rights.size() < 16) {
            due("right " + group + " " + zone + " " + from + " " + to + " " + since, m.rights.size(), x.right(group, zone, from, to, since));
            m.right(group, zone, from, to, since);
        } else {
            refused("right", IllegalStateException.class, () -> x.right(group, zone, from, to, since));
        }
    }

    private void program() {
        for (int k = 5 + r.nextInt(9); k > 0; k--) {
            int kind = r.nextInt(4) == 0 ? r.nextInt(2) : r.nextInt(26);
            due("block " + kind, m.program.blocks.size(), x.block(kind));
            m.program.blocks.add(new HouseProgram.Block(kind));
            int own = m.program.blocks.size() - 1;
            if (kind == 0 || kind == 1 || r.nextInt(3) == 0) {
                numbers(own, kind == 0 ? r.nextInt(10) : r.nextInt(120) - 5, r.nextInt(6));
            }
            for (int input = 0; input < 3 && kind > 1; input++) {
                if (r.nextInt(8) > 0 && own > 0) {
                    wire(own, input, r.nextInt(own));
                }
            }
            if (r.nextInt(3) == 0) {
                bind(own, r.nextInt(10));
            }
        }
    }

    private void numbers(int block, int p, int q) {
        calls++;
        x.numbers(block, p, q);
        log.append("\nnumbers " + block + " " + p + " " + q);
        m.program.blocks.get(block).p = p;
        m.program.blocks.get(block).q = q;
    }

    private void wire(int block, int input, int to) {
        int[] inputs = m.program.blocks.get(block).inputs;
        due("wire " + block + " " + input + " " + to, inputs[input], x.wire(block, input, to));
        inputs[input] = to;
    }

    private void bind(int block, int to) {
        due("bind " + block + " " + to, m.program.blocks.get(block).bound, x.bind(block, to));
        m.program.blocks.get(block).bound = to;
        note("bound");
    }

    // ---- the matrix

    private final Map<Integer, HouseAlarms.Zone> zones = new HashMap<>();
    private final Map<Integer, HouseAlarms.Act> acts = new HashMap<>();
    private final List<int[]> rows = new ArrayList<>();

    private void matrix() {
        int length = 0;
        List<Integer> zoneNumbers = new ArrayList<>();
        List<Integer> actNumbers = new ArrayList<>();
        for (int k = 2 + r.nextInt(4); k > 0; k--) {
            int zone = r.nextInt(20);
            HouseAlarms.Zone z = new HouseAlarms.Zone();
            int many = 1 + r.nextInt(Math.min(4, m.n + 10));
            int from = r.nextInt(m.n + 11 - many);
            z.needs = 1 + r.nextInt(r.nextInt(many) + 1);
            for (int p = from; p < from + many; p++) {
                z.points.add(p);
            }
            if (zones.putIfAbsent(zone, z) == null) {
                zoneNumbers.add(zone);
                String text = "zone " + zone + " needs " + z.needs + " of " + z.points.toString().replaceAll("[\\[\\],]", "") + " ; ";
                length += text.length();
                due(text, length, x.sentence(0, zone, z.needs, from, many));
            }
        }
        for (int k = 4 + r.nextInt(4); k > 0; k--) {
            int act = r.nextInt(20);
            HouseAlarms.Act a = new HouseAlarms.Act();
            a.kind = r.nextInt(6);
            a.rank = r.nextInt(3);
            a.delay = r.nextInt(2) * r.nextInt(8);
            if (acts.putIfAbsent(act, a) == null) {
                actNumbers.add(act);
                String text = "act " + act + " kind " + a.kind + " rank " + a.rank + " delay " + a.delay + " ; ";
                length += text.length();
                due(text, length, x.sentence(1, act, a.kind, a.rank, a.delay));
            }
        }
        for (int k = 5 + r.nextInt(6); k > 0; k--) {
            int zone = zoneNumbers.get(r.nextInt(zoneNumbers.size()));
            int other = zoneNumbers.get(r.nextInt(zoneNumbers.size()));
            int act = actNumbers.get(r.nextInt(actNumbers.size()));
            boolean one = zone == other || r.nextInt(4) > 0;
            String text = "when " + zone + (one ? "" : " & " + other) + " does " + act + " ; ";
            length += text.length();
            due(text, length, one ? x.sentence(2, zone, act, 0, 0) : x.sentence(3, zone, other, act, 0));
            rows.add(one ? new int[] {zone, act} : new int[] {zone, other, act});
        }
        for (int act : actNumbers) {
            if (r.nextInt(4) == 0) {
                String text = "hold " + act + " ; ";
                length += text.length();
                due(text, length, x.sentence(4, act, 0, 0, 0));
                acts.get(act).latches = true;
            }
        }
        tellMatrix();
    }

    private void tellMatrix() {
        due("matrix", rows.size(), x.matrix());
        for (HouseAlarms.Act a : acts.values()) {
            a.state = 0;
        }
        m.alarms.zones = zones;
        m.alarms.acts = new java.util.TreeMap<>(acts);
        m.alarms.rows = rows;
    }

    // ---- what is done

    private void act() {
        switch (r.nextInt(24)) {
            case 0:
            case 1:
            case 2:
            case 3:
                pass();
                break;
            case 4:
            case 5:
            case 6:
            case 7:
                ask();
                break;
            case 8:
            case 9:
                portalIs();
                break;
            case 10:
                tellOfCards();
                break;
            case 11:
            case 12:
            case 13:
            case 14:
                pointIs();
                break;
            case 15:
                attend();
                break;
            case 16:
            case 17:
                blockIs();
                break;
            case 18:
            case 19:
                busIs();
                break;
            case 20:
            case 21:
            case 22:
                liftIs();
                break;
            default:
                fire();
                break;
        }
    }

    private void pass() {
        int seconds = r.nextInt(12) == 0 ? 60 : 1 + r.nextInt(r.nextInt(3) == 0 ? 12 : 3);
        int caught = countCaught();
        int steps = countSteps();
        int[] heard = m.bus.heard.clone();
        m.pass(seconds);
        due("pass " + seconds, m.time, x.pass(seconds));
        for (int kind = 0; kind < 5; kind++) {
            if (m.alarms.anyDone(kind)) {
                note("done " + kind);
            }
        }
        for (HouseAlarms.Act a : m.alarms.acts.values()) {
            if (a.latches && a.state == 2) {
                note("latched");
            }
        }
        if (countCaught() > caught) {
            note("caught");
        }
        if (countSteps() > steps) {
            note("steps");
        }
        if (m.bus.heard[2] > heard[2]) {
            note("noise");
        }
        if (m.program.order().size() < m.program.blocks.size()) {
            note("ring");
        }
    }

    private int countCaught() {
        int all = 0;
        for (HouseModel.Person p : m.persons) {
            all += p.caught >= 0 ? 1 : 0;
        }
        return all;
    }

    private int countSteps() {
        int all = 0;
        for (HouseModel.Person p : m.persons) {
            all += p.steps;
            if (p.steps > 0 && p.room == m.n && p.since > 0) {
                note("out");
            }
        }
        return all;
    }

    /** A portal of the person's room, mostly, so that cards are let in now and then. */
    private void ask() {
        if (m.portals.isEmpty()) {
            refused("ask", IllegalArgumentException.class, () -> x.ask(0, 0, 0));
            return;
        }
        int card = r.nextInt(m.cards.size());
        int other = (card + 1 + r.nextInt(Math.max(1, m.cards.size() - 1))) % m.cards.size();
        int room = m.persons.get(m.cards.get(card)[0]).room;
        int portal = r.nextInt(m.portals.size());
        boolean atOff = r.nextInt(3) == 0;
        for (int k = 0; k < 20 && r.nextInt(10) > 0 && !(atOff ? m.portals.get(portal).offFrom >= 0 : hasRoom(portal, room)); k++) {
            portal = r.nextInt(m.portals.size());
        }
        int[] rooms = m.portals.get(portal).rooms;
        int to = r.nextInt(8) == 0 || !hasRoom(portal, room) ? rooms[r.nextInt(2)] : rooms[rooms[0] == room ? 1 : 0];
        boolean together = r.nextInt(6) == 0 && other != card;
        ask(card, other, portal, to, together);
    }

    private boolean hasRoom(int portal, int room) {
        return m.portals.get(portal).rooms[0] == room || m.portals.get(portal).rooms[1] == room;
    }

    private void ask(int card, int other, int portal, int to, boolean together) {
        HouseModel.Portal d = m.portals.get(portal);
        String call = (together ? "both " + card + " " + other : "ask " + card) + " " + portal + " " + to;
        if (d.offFrom >= 0 && d.rows.size() > (together ? 18 : 19)) {
            refused(call, IllegalStateException.class, () -> ask(together, card, other, portal, to));
            return;
        }
        int rowsBefore = d.rows.size();
        int want = together ? m.both(card, other, portal, to) : m.ask(card, portal, to);
        due(call, want, ask(together, card, other, portal, to));
        note("ask " + want);
        if (d.rows.size() > rowsBefore) {
            note("row");
        }
        if (m.released()) {
            note("released ask");
        }
    }

    private int ask(boolean together, int card, int other, int portal, int to) {
        return together ? x.both(card, other, portal, to) : x.ask(card, portal, to);
    }

    private void portalIs() {
        if (m.portals.size() < 2) {
            refused("airlock", IllegalArgumentException.class, () -> x.airlock(0, 0, true));
            return;
        }
        int portal = r.nextInt(m.portals.size());
        int other = (portal + 1 + r.nextInt(m.portals.size() - 1)) % m.portals.size();
        HouseModel.Portal d = m.portals.get(portal);
        boolean on = r.nextInt(3) > 0;
        switch (r.nextInt(7)) {
            case 0:
                on = r.nextInt(4) == 0;
                due("two " + portal + " " + on, d.two, x.two(portal, on));
                d.two = on;
                break;
            case 1:
            case 2:
                boolean was = on ? !m.airlocks.add(HouseModel.lock(portal, other)) : m.airlocks.remove(HouseModel.lock(portal, other));
                due("airlock " + portal + " " + other + " " + on, was, x.airlock(portal, other, on));
                break;
            case 3:
            case 4:
                due("stands " + portal + " " + on, m.stands(portal, on), x.stands(portal, on));
                break;
            default:
                portal = r.nextBoolean() ? withRows(portal) : portal;
                boolean off = r.nextInt(3) > 0;
                int before = m.against.size();
                due("off " + portal + " " + off, m.off(portal, off), x.off(portal, off));
                if (m.against.size() > before) {
                    note("against");
                }
                break;
        }
    }

    /** A portal that has rows, if there is one. */
    private int withRows(int portal) {
        for (int k = 0; k < m.portals.size(); k++) {
            if (!m.portals.get(k).rows.isEmpty()) {
                return k;
            }
        }
        return portal;
    }

    private void tellOfCards() {
        int minute = Math.max(0, m.time / 60 + r.nextInt(4) - 2);
        int card = r.nextInt(m.cards.size());
        int right = r.nextInt(m.rights.size());
        int portal = withRows(-1);
        if (portal >= 0 && r.nextBoolean()) {
            card = m.portals.get(portal).rows.get(0)[0];
        }
        switch (r.nextInt(4)) {
            case 0:
                due("end " + right + " " + minute, m.end(right, minute), x.end(right, minute));
                break;
            case 1:
                due("lost " + card + " " + minute, m.lost(card, minute), x.lost(card, minute));
                break;
            case 2:
                card();
                break;
            default:
                right();
                break;
        }
    }

    private void pointIs() {
        int point = r.nextInt(3) == 0 ? r.nextInt(m.n + 10) : zonePoint();
        switch (r.nextInt(8)) {
            case 0:
                boolean on = r.nextInt(3) == 0;
                due("fault " + point + " " + on, m.alarms.faulty[point], x.fault(point, on));
                m.alarms.faulty[point] = on;
                break;
            case 1:
                int until = Math.max(0, m.time + r.nextInt(6) - 2);
                due("disable " + point + " " + until, m.alarms.until[point], x.disable(point, until));
                m.alarms.until[point] = until;
                break;
            default:
                int v = r.nextBoolean() ? 100 : r.nextInt(101);
                due("signal " + point + " " + v, m.alarms.values[point], x.signal(point, v));
                m.alarms.values[point] = v;
                break;
        }
    }

    private int zonePoint() {
        List<HouseAlarms.Zone> all = new ArrayList<>(m.alarms.zones.values());
        List<Integer> points = all.get(r.nextInt(all.size())).points;
        return points.get(r.nextInt(points.size()));
    }

    private void attend() {
        int what = r.nextInt(20);
        if (what == 0) {
            tellMatrix();
        } else if (what < 5) {
            due("attend 0", m.alarms.attend(0, m.time), x.attend(0));
        } else if (what < 10) {
            due("attend 1", m.alarms.attend(1, m.time), x.attend(1));
        } else {
            due("reset", m.reset(), x.reset());
        }
    }

    private void blockIs() {
        int point = 4 + r.nextInt(6);
        if (m.program.blocks.isEmpty() || r.nextInt(4) == 0) {
            int v = r.nextInt(100) - 10;
            due("point " + point + " " + v, m.program.points[point], x.point(point, v));
            m.program.points[point] = v;
            return;
        }
        int block = r.nextInt(m.program.blocks.size());
        HouseProgram.Block b = m.program.blocks.get(block);
        int v = r.nextInt(120) - 10;
        switch (r.nextInt(6)) {
            case 0:
                wire(block, r.nextInt(3), r.nextInt(m.program.blocks.size() + 1) - 1);
                break;
            case 1:
                numbers(block, v, r.nextInt(60));
                break;
            case 2:
                due("safe " + block + " " + v, b.safe, x.safe(block, v));
                b.safe = v;
                break;
            case 3:
                boolean on = r.nextBoolean();
                due("hand " + block + " " + on + " " + v, b.inHand, x.hand(block, on, v));
                b.inHand = on;
                b.hand = v;
                break;
            case 4:
                bind(block, r.nextInt(11) - 1);
                break;
            default:
                int at = r.nextInt(8);
                if (b.kind == 15) {
                    due("row " + block + " " + at + " " + v, b.row[at], x.row(block, at, v));
                    b.row[at] = v;
                } else {
                    refused("row " + block, IllegalStateException.class, () -> x.row(block, at, v));
                }
                break;
        }
    }

    private void listen() {
        int station = r.nextInt(7);
        int group = r.nextInt(20);
        boolean on = r.nextInt(5) > 0;
        boolean was = on ? !m.bus.stations[station].groups.add(group) : m.bus.stations[station].groups.remove(group);
        due("listen " + station + " " + group + " " + on, was, x.listen(station, group, on));
    }

    private void busIs() {
        int station = r.nextInt(8);
        HouseBus.Station s = m.bus.stations[station];
        switch (r.nextInt(8)) {
            case 0:
                listen();
                break;
            case 1:
                boolean on = r.nextInt(3) == 0;
                due("busy " + station + " " + on, s.busy, x.busy(station, on));
                s.busy = on;
                break;
            case 2:
                int address = r.nextInt(9);
                due("address " + station + " " + address, s.address, x.address(station, address));
                s.address = address;
                break;
            case 3:
            case 4:
                int behind = 1 + r.nextInt(r.nextInt(4) == 0 ? 2000 : 300);
                if (m.bus.pending() < 50) {
                    due("disturb " + behind, m.bus.disturbed.add(m.bus.now + behind), x.disturb(behind));
                } else {
                    refused("disturb " + behind, IllegalStateException.class, () -> x.disturb(behind));
                }
                break;
            default:
                int aim = r.nextInt(10);
                boolean group = r.nextBoolean();
                int priority = r.nextInt(4);
                int n = 1 + r.nextInt(r.nextInt(3) == 0 ? 14 : 3);
                int b = r.nextInt(256);
                String call = "send " + station + " " + priority + " " + aim + " " + group + " " + n + " " + b;
                int want = m.bus.send(station, priority, aim, group, n, b);
                if (want < 0) {
                    refused(call, IllegalStateException.class, () -> x.send(station, priority, aim, group, n, b));
                } else {
                    due(call, want, x.send(station, priority, aim, group, n, b));
                }
                break;
        }
    }

    private void liftIs() {
        HouseLifts l = m.lifts;
        List<Integer> open = l.open();
        int car = l.cars.isEmpty() ? -1 : r.nextInt(l.cars.size() + 1) - 1;
        int floor = r.nextInt(12);
        int other = (floor + 1 + r.nextInt(11)) % 12;
        int what = r.nextInt(12);
        if (l.cars.size() < 2 || what == 0 && l.cars.size() < 4) {
            int speed = 1 + r.nextInt(5);
            due("car " + floor + " " + speed, l.cars.size(), x.car(floor, speed));
            l.cars.add(new int[] {floor, speed, 0, 0, 59, -1});
        } else if (what == 1 && car >= 0) {
            int second = Math.max(0, m.time + r.nextInt(40) - 10);
            calls++;
            x.free(car, floor, second);
            log.append("\nfree " + car + " " + floor + " " + second);
            l.cars.get(car)[0] = floor;
            l.cars.get(car)[2] = second;
        } else if (what == 2 && car >= 0) {
            int least = r.nextInt(4);
            int most = r.nextInt(3) == 0 ? 6 + r.nextInt(6) : 59;
            calls++;
            x.span(car, least, most);
            log.append("\nspan " + car + " " + least + " " + most);
            l.cars.get(car)[3] = least;
            l.cars.get(car)[4] = most;
        } else if (what == 3 && !open.isEmpty()) {
            int call = open.get(r.nextInt(open.size()));
            due("begin " + call + " " + car, l.begin(call, car), x.begin(call, car));
        } else if (what == 4 && !open.isEmpty()) {
            int call = open.get(r.nextInt(open.size()));
            calls++;
            x.done(call);
            log.append("\ndone " + call);
            l.done(call);
        } else if (what < 8) {
            if (open.size() < 6) {
                due("call " + floor + " " + other, l.calls.size(), x.call(floor, other));
                l.calls.add(new int[] {floor, other, m.time, 1});
            } else {
                refused("call", IllegalStateException.class, () -> x.call(floor, other));
            }
        } else {
            due("give (" + l + ")", l.give(m.time, m.home()), x.give());
            note(m.home() ? "give at home" : "give");
        }
    }

    private void fire() {
        int cx = r.nextInt(24);
        int cy = r.nextInt(24);
        for (int k = 0; k < 20 && m.room[cx][cy] < 0 && r.nextInt(6) > 0; k++) {
            cx = r.nextInt(24);
            cy = r.nextInt(24);
        }
        if (r.nextInt(4) > 0 && m.time < 100) {
            return;
        }
        due("fire " + cx + " " + cy, !m.smoke[cx][cy], x.fire(cx, cy));
        m.smoke[cx][cy] = true;
    }

    // ---- what is looked at

    private void look() {
        switch (r.nextInt(12)) {
            case 0:
                lookAtTold();
                break;
            case 1:
            case 2:
                int person = r.nextInt(m.persons.size());
                int what = r.nextInt(6);
                HouseModel.Person p = m.persons.get(person);
                due("where " + person + " " + what, new int[] {p.room, p.x, p.y, p.caught, p.steps, p.since}[what], x.where(person, what));
                break;
            case 3:
                lookAtPeople();
                break;
            case 4:
            case 5:
                lookAtAlarms();
                break;
            case 6:
            case 7:
                lookAtProgram();
                break;
            case 8:
            case 9:
                lookAtBus();
                break;
            case 10:
                lookAtLifts();
                break;
            default:
                lookAtCells();
                break;
        }
    }

    private void lookAtTold() {
        int[] all = {m.portals.size(), m.freeInside(), m.alarms.done(), m.smoky(-2), m.lifts.open().size(), m.released() ? 1 : 0, m.home() ? 1 : 0,
            m.leaving() ? 1 : 0, m.time};
        int what = r.nextInt(9);
        due("told " + what, all[what], x.told(what));
    }

    private void lookAtPeople() {
        if (r.nextBoolean()) {
            int zone = r.nextInt(10);
            int inside = 0;
            for (HouseModel.Person p : m.persons) {
                inside += p.room < m.n && m.zones[p.room] == zone ? 1 : 0;
            }
            due("inside " + zone, inside, x.inside(zone));
        } else {
            int k = r.nextInt(4);
            int what = r.nextInt(5);
            if (what == 0) {
                due("against " + k + " 0", m.against.size(), x.against(k, 0));
            } else if (k < m.against.size()) {
                due("against " + k + " " + what, m.against.get(k)[what - 1], x.against(k, what));
            } else {
                refused("against " + k, IllegalArgumentException.class, () -> x.against(k, what));
            }
        }
    }

    private void lookAtAlarms() {
        HouseAlarms a = m.alarms;
        int which = r.nextInt(20);
        int what = r.nextInt(6);
        int kind = r.nextInt(4);
        if (kind == 0) {
            List<Integer> told = new ArrayList<>(a.zones.keySet());
            int zone = told.get(r.nextInt(told.size()));
            int[] all = {a.isOn(zone, m.time) ? 1 : 0, a.isSure(zone, m.time) ? 1 : 0, a.zones.get(zone).needs, a.on(zone, m.time)};
            due("zone " + zone + " " + what % 4, all[what % 4], x.zone(zone, what % 4));
        } else if (kind == 1 && !a.events.isEmpty()) {
            int k = r.nextInt(Math.min(60, a.events.size()));
            due("event " + k + " " + what % 3, a.events.get(a.events.size() - 1 - k)[what % 3], x.event(k, what % 3));
        } else if (kind == 2 && !a.acts.containsKey(which)) {
            refused("act " + which, IllegalArgumentException.class, () -> x.act(which, what));
        } else {
            List<Integer> told = new ArrayList<>(a.acts.keySet());
            int number = told.get(r.nextInt(told.size()));
            HouseAlarms.Act act = a.acts.get(number);
            int[] all = {act.state, act.state == 1 ? act.since : -1, act.kind, act.rank, act.delay, act.latches ? 1 : 0};
            due("act " + number + " " + what, all[what], x.act(number, what));
        }
    }

    private void lookAtProgram() {
        HouseProgram g = m.program;
        int what = r.nextInt(8);
        for (int k = 1; k < 4; k++) {
            if (g.failed[k] > 0) {
                note("failed " + k);
            }
        }
        if (what == 0) {
            due("order", g.order().size(), x.order());
        } else if (what == 1) {
            int kind = r.nextInt(4);
            due("failed " + kind, g.failed[kind], x.failed(kind));
        } else if (what < 4 || g.blocks.isEmpty()) {
            int point = r.nextInt(10);
            due("pointAt " + point, g.points[point], x.pointAt(point));
        } else {
            int block = r.nextInt(g.blocks.size());
            HouseProgram.Block b = g.blocks.get(block);
            int[] all = {b.out, b.first, b.second, g.placeOf(block)};
            due("out " + block + " " + what % 4, all[what % 4], x.out(block, what % 4));
        }
    }

    private void lookAtBus() {
        int what = r.nextInt(6);
        int kind = r.nextInt(3);
        if (kind == 0) {
            int station = r.nextInt(8);
            int want = m.bus.fact(station, what);
            due("station " + station + " " + what, want, x.station(station, what));
            if (want > 0 && what > 2) {
                note(what == 3 ? "said" : what == 4 ? "lost telegram" : "stopped");
            }
        } else if (kind == 1) {
            due("heard " + what % 5, m.bus.heard[what % 5], x.heard(what % 5));
        } else {
            int i = r.nextInt(12) - 1;
            int aim = m.bus.latest.length > 5 && m.bus.latest[5] > 127 ? 256 * m.bus.latest[3] + m.bus.latest[4] : 0;
            if (aim >= 4 && aim <= 9) {
                note("point by bus");
            }
            if (i < m.bus.latest.length) {
                due("byteAt " + i, i < 0 ? m.bus.answer : m.bus.latest[i], x.byteAt(i));
            } else {
                refused("byteAt " + i, IllegalArgumentException.class, () -> x.byteAt(i));
            }
        }
    }

    private void lookAtLifts() {
        int call = r.nextInt(m.lifts.calls.size() + 1);
        int what = r.nextInt(4);
        if (call < m.lifts.calls.size()) {
            due("given " + call + " " + what, m.lifts.given(call, what), x.given(call, what));
        } else {
            refused("given " + call, IllegalArgumentException.class, () -> x.given(call, what));
        }
    }

    private void lookAtCells() {
        HouseModel.Person p = m.persons.get(r.nextInt(m.persons.size()));
        int cx = p.x >= 0 ? p.x : r.nextInt(24);
        int cy = p.y >= 0 ? p.y : r.nextInt(24);
        int here = 0;
        for (HouseModel.Person other : m.persons) {
            here += other.x == cx && other.y == cy && other.caught < 0 ? 1 : 0;
        }
        if (here > 1) {
            note("two in a cell");
        }
        int[] all = {m.smoke[cx][cy] ? 1 : 0, m.walking[cx][cy], here};
        int what = r.nextInt(3);
        due("cell " + cx + " " + cy + " " + what, all[what], x.cell(cx, cy, what));
    }

    @Override
    public String toString() {
        return Arrays.toString(log.toString().split("\n"));
    }
}
