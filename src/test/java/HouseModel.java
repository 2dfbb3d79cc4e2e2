import java.util.ArrayList;
import java.util.Arrays;
import java.util.Collections;
import java.util.HashMap;
import java.util.HashSet;
import java.util.List;
import java.util.Map;
import java.util.Set;

/**
 * A whole house that is built, told once more from the document: what one part does to the others, second by second.
 * What the plan says (spaces, portals, where one goes) is PlanModel's.
 */
final class HouseModel {
    static final class Person {
        int group;
        int pace;
        int room;
        int x = -1;
        int y = -1;
        int caught = -1;
        int steps;
        int since;
    }

    static final class Portal {
        int[] rooms;
        int[][] cells;
        int offFrom = -1;
        final List<int[]> rows = new ArrayList<>();
        boolean two;
        boolean open;
        int since;
    }

    final int n;
    final int[][] room;
    final int[] zones;
    private final PlanModel plan;
    final List<Portal> portals = new ArrayList<>();
    final List<Person> persons = new ArrayList<>();
    /** Of cards: person, until, telling; of rights: group, zone, from, to, since, telling. */
    final List<int[]> cards = new ArrayList<>();
    final List<int[]> rights = new ArrayList<>();
    /** Of ends and losses: which, minute, telling. */
    private final List<int[]> ends = new ArrayList<>();
    private final List<int[]> losses = new ArrayList<>();
    private int tellings;
    final Set<String> airlocks = new HashSet<>();
    final List<int[]> against = new ArrayList<>();
    final HouseAlarms alarms;
    final HouseProgram program = new HouseProgram();
    final HouseBus bus = new HouseBus();
    final HouseLifts lifts = new HouseLifts();
    boolean[][] smoke = new boolean[24][24];
    final int[][] walking = new int[24][24];
    int time;

    HouseModel(PlanModel plan, int[] names) {
        this.plan = plan;
        room = plan.cells();
        n = plan.spaces.size();
        zones = new int[n];
        for (int k = 0; k < n; k++) {
            zones[k] = names[k] % 10;
        }
        for (int[] joint : plan.joints()) {
            if (joint[2] != joint[3]) {
                addPortal(joint);
            }
        }
        alarms = new HouseAlarms(n);
        numberCells();
    }

    private void addPortal(int[] joint) {
        PlanModel.Line line = plan.lines.get(joint[0]);
        Portal p = new Portal();
        p.rooms = new int[] {joint[2] < 0 ? n : joint[2], joint[3] < 0 ? n : joint[3]};
        int x = line.x0 + (line.x0 == line.x1 ? 0 : joint[4]);
        int y = line.y0 + (line.x0 == line.x1 ? joint[4] : 0);
        p.cells = line.x0 == line.x1 ? new int[][] {{x - 1, y}, {x, y}} : new int[][] {{x, y}, {x, y - 1}};
        portals.add(p);
    }

    boolean released() {
        return alarms.anyDone(0);
    }

    boolean home() {
        return alarms.anyDone(1);
    }

    boolean leaving() {
        return alarms.anyDone(4);
    }

    // ---- cards and rights

    int person(int group, int pace) {
        Person p = new Person();
        p.group = group;
        p.pace = pace;
        p.room = n;
        persons.add(p);
        return persons.size() - 1;
    }

    int card(int person, int until) {
        cards.add(new int[] {person, until, tellings++});
        return cards.size() - 1;
    }

    int right(int group, int zone, int from, int to, int since) {
        rights.add(new int[] {group, zone, from, to, since, tellings++});
        return rights.size() - 1;
    }

    int end(int right, int minute) {
        return tell(ends, right, minute);
    }

    int lost(int card, int minute) {
        return tell(losses, card, minute);
    }

    private int tell(List<int[]> notes, int which, int minute) {
        int before = minuteOf(notes, which, tellings);
        notes.add(new int[] {which, minute, tellings++});
        return before;
    }

    private static int minuteOf(List<int[]> notes, int which, int known) {
        int minute = -1;
        for (int[] note : notes) {
            minute = note[0] == which && note[2] < known ? note[1] : minute;
        }
        return minute;
    }

    private static boolean isSince(List<int[]> notes, int which, int known, int minute) {
        int from = minuteOf(notes, which, known);
        return from >= 0 && minute >= from;
    }

    /** 1, 2, 3 or 0. */
    private int cardIs(int card, int minute, int known) {
        int[] c = cards.get(card);
        return c[2] >= known ? 1 : minute > c[1] ? 2 : isSince(losses, card, known, minute) ? 3 : 0;
    }

    private boolean mayBeIn(int card, int to, int minute, int known) {
        boolean may = to == n;
        Person p = persons.get(cards.get(card)[0]);
        for (int k = 0; k < rights.size() && !may; k++) {
            int[] r = rights.get(k);
            int m = minute % 1440;
            boolean span = r[2] < r[3] ? m >= r[2] && m < r[3] : r[2] > r[3] && (m >= r[2] || m < r[3]);
            may = r[5] < known && r[0] == p.group && r[1] == zones[to] && minute >= r[4] && span && !isSince(ends, k, known, minute);
        }
        return may;
    }

    private int why(int card, int portal, int to) {
        Person p = persons.get(cards.get(card)[0]);
        Portal d = portals.get(portal);
        boolean elsewhere = p.room != (d.rooms[0] == to ? d.rooms[1] : d.rooms[0]);
        if (p.caught >= 0) {
            return 9;
        }
        if (released()) {
            return elsewhere ? 4 : 0;
        }
        int known = d.offFrom >= 0 ? d.offFrom : tellings;
        int why = cardIs(card, time / 60, known);
        if (why != 0) {
            return why;
        }
        if (elsewhere && d.offFrom < 0) {
            return 4;
        }
        if (!mayBeIn(card, to, time / 60, known)) {
            return 5;
        }
        for (int k = 0; k < portals.size(); k++) {
            if (portals.get(k).open && airlocks.contains(lock(k, portal))) {
                return 6;
            }
        }
        return 0;
    }

    static String lock(int a, int b) {
        return Math.min(a, b) + "/" + Math.max(a, b);
    }

    int ask(int card, int portal, int to) {
        int why = why(card, portal, to);
        if (why == 0 && portals.get(portal).two && !released()) {
            why = 7;
        }
        if (why == 0) {
            let(card, portal, to);
        }
        return why;
    }

    int both(int a, int b, int portal, int to) {
        int why = why(a, portal, to);
        why = why == 0 ? why(b, portal, to) : why;
        if (why == 0 && cards.get(a)[0] == cards.get(b)[0] && !released()) {
            why = 8;
        }
        if (why == 0) {
            let(a, portal, to);
            let(b, portal, to);
        }
        return why;
    }

    private void let(int card, int portal, int to) {
        if (portals.get(portal).offFrom >= 0 && !released()) {
            portals.get(portal).rows.add(new int[] {card, to, time / 60});
        } else {
            enter(persons.get(cards.get(card)[0]), portals.get(portal), to);
        }
    }

    private void enter(Person p, Portal d, int to) {
        int[] cell = to == n ? new int[] {-1, -1} : d.cells[d.rooms[0] == to ? 0 : 1];
        p.room = to;
        p.x = cell[0];
        p.y = cell[1];
        p.since = time;
    }

    int off(int portal, boolean on) {
        Portal d = portals.get(portal);
        if (on == (d.offFrom >= 0)) {
            return 0;
        }
        d.offFrom = on ? tellings : -1;
        int rows = d.rows.size();
        for (int[] row : d.rows) {
            Person p = persons.get(cards.get(row[0])[0]);
            if (p.caught < 0) {
                enter(p, d, row[1]);
            }
            int why = cardIs(row[0], row[2], tellings);
            why = why == 0 && !mayBeIn(row[0], row[1], row[2], tellings) ? 5 : why;
            if (why != 0) {
                against.add(new int[] {portal, row[0], row[2], why});
            }
        }
        d.rows.clear();
        return rows;
    }

    int stands(int portal, boolean open) {
        Portal d = portals.get(portal);
        int seconds = time - d.since;
        d.since = d.open == open ? d.since : time;
        d.open = open;
        return seconds;
    }

    // ---- smoke and persons

    private static final int[][] BESIDE = {{1, 0}, {-1, 0}, {0, 1}, {0, -1}};

    private int roomAt(int x, int y) {
        return x < 0 || x > 23 || y < 0 || y > 23 ? -1 : room[x][y];
    }

    private void numberCells() {
        for (int[] column : walking) {
            Arrays.fill(column, -1);
        }
        boolean more = true;
        while (more) {
            more = false;
            for (int x = 0; x < 24; x++) {
                for (int y = 0; y < 24; y++) {
                    int number = room[x][y] < 0 ? -1 : numberFrom(x, y);
                    more |= number != walking[x][y];
                    walking[x][y] = number;
                }
            }
        }
    }

    /** What the number of a cell would be by those beside it, as they are. */
    private int numberFrom(int x, int y) {
        int least = -1;
        for (int[] d : BESIDE) {
            if (plan.goes(x, y, d[0], d[1], new ArrayList<>())) {
                int there = roomAt(x + d[0], y + d[1]) < 0 ? 0 : walking[x + d[0]][y + d[1]];
                least = there >= 0 && (least < 0 || there + 1 < least) ? there + 1 : least;
            }
        }
        return least;
    }

    private void spread() {
        boolean[][] next = new boolean[24][24];
        for (int x = 0; x < 24; x++) {
            for (int y = 0; y < 24; y++) {
                if (smoke[x][y]) {
                    next[x][y] = true;
                    for (int[] d : BESIDE) {
                        boolean inside = x + d[0] >= 0 && x + d[0] < 24 && y + d[1] >= 0 && y + d[1] < 24;
                        if (inside && plan.goes(x, y, d[0], d[1], new ArrayList<>())) {
                            next[x + d[0]][y + d[1]] = true;
                        }
                    }
                }
            }
        }
        smoke = next;
    }

    int smoky(int wanted) {
        int all = 0;
        for (int x = 0; x < 24; x++) {
            for (int y = 0; y < 24; y++) {
                all += smoke[x][y] && (wanted < -1 || room[x][y] == wanted) ? 1 : 0;
            }
        }
        return all;
    }

    int freeInside() {
        int all = 0;
        for (Person p : persons) {
            all += p.room < n && p.caught < 0 ? 1 : 0;
        }
        return all;
    }

    private void leave() {
        List<Person> going = new ArrayList<>();
        Map<Person, Integer> numbers = new HashMap<>();
        for (Person p : persons) {
            if (p.room < n && p.caught < 0 && p.since + p.pace <= time) {
                going.add(p);
                numbers.put(p, walking[p.x][p.y] < 0 ? 100000 : walking[p.x][p.y]);
            }
        }
        going.sort((a, b) -> numbers.get(a) - numbers.get(b));
        Map<String, Integer> through = new HashMap<>();
        for (Person p : going) {
            boolean goes = false;
            for (int k = 0; k < 4 && !goes; k++) {
                goes = goesTo(p, BESIDE[k], through);
            }
        }
    }

    private boolean goesTo(Person p, int[] d, Map<String, Integer> through) {
        int x = p.x + d[0];
        int y = p.y + d[1];
        int own = walking[p.x][p.y];
        boolean out = roomAt(x, y) < 0;
        List<int[]> doors = new ArrayList<>();
        if (!plan.goes(p.x, p.y, d[0], d[1], doors)) {
            return false;
        }
        if (out ? own != 1 : walking[x][y] < 0 || walking[x][y] >= own) {
            return false;
        }
        if (x >= 0 && x < 24 && y >= 0 && y < 24 && smoke[x][y]) {
            return false;
        }
        boolean lets = doors.isEmpty();
        for (int k = 0; k < doors.size() && !lets; k++) {
            String door = doors.get(k)[0] + "." + doors.get(k)[1];
            lets = through.getOrDefault(door, 0) < doors.get(k)[2];
            if (lets) {
                through.merge(door, 1, Integer::sum);
            }
        }
        if (lets) {
            p.room = out ? n : room[x][y];
            p.x = out ? -1 : x;
            p.y = out ? -1 : y;
            p.steps++;
            p.since = time;
        }
        return lets;
    }

    // ---- a second

    void pass(int seconds) {
        for (int k = 0; k < seconds; k++) {
            second();
        }
    }

    private void second() {
        time++;
        if (time % 10 == 0) {
            spread();
        }
        for (int k = 0; k < n; k++) {
            alarms.values[k] = Math.min(100, 10 * smoky(k));
        }
        for (HouseProgram.Block b : program.blocks) {
            if (b.bound >= 0) {
                alarms.values[n + b.bound] = b.out < 0 ? 0 : b.out > 100 ? 100 : b.out;
            }
        }
        alarms.second(time, this::happened);
        program.points[0] = freeInside();
        program.points[1] = alarms.done();
        program.points[2] = smoky(-2);
        program.points[3] = lifts.open().size();
        program.second(time / 60 % 1440);
        for (int k = 0; k < 30; k++) {
            int[] set = bus.bitTime();
            if (set != null) {
                program.points[set[0]] = set[1];
            }
        }
        for (Person p : persons) {
            if (p.room < n && p.caught < 0 && smoke[p.x][p.y]) {
                p.caught = time;
            }
        }
        if (leaving()) {
            leave();
        }
    }

    /** What an act does with an event. */
    void happened(int act, boolean done) {
        int kind = alarms.acts.get(act).kind;
        if (kind == 2) {
            bus.send(7, 0, act, true, 2, done ? 1 : 0);
        }
        if (kind == 3) {
            program.points[4 + act % 6] = done ? 1 : 0;
        }
    }

    int reset() {
        return alarms.reset(time, this::happened);
    }

    List<Integer> openCalls() {
        return Collections.unmodifiableList(lifts.open());
    }
}
