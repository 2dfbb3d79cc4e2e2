import java.util.ArrayList;
import java.util.Arrays;
import java.util.HashSet;
import java.util.List;
import java.util.Random;
import java.util.Set;
import java.util.TreeMap;
import java.util.regex.Matcher;
import java.util.regex.Pattern;

/** Random matrix texts and random alarms, compared with a model: promises 14 to 17. */
final class MatrixRunTest {
    private MatrixRunTest() {
    }

    static void all() {
        Checks.test("P15 random texts are wrong where the model says", MatrixRunTest::randomTexts);
        Checks.test("P15-17 random alarms as in the model", MatrixRunTest::randomAlarms);
    }

    /** What a text tells; wrong is the wrong word, or -1. */
    private static final class Told {
        int wrong = -1;
        final TreeMap<Integer, int[]> zones = new TreeMap<>();
        final TreeMap<Integer, int[]> acts = new TreeMap<>();
        final List<int[]> rows = new ArrayList<>();
        final Set<Integer> held = new HashSet<>();
        private final List<String> words = new ArrayList<>();
        private int at;
        private final int points;

        Told(String text, int points) {
            this.points = points;
            Matcher m = Pattern.compile("[a-z]+|[0-9]+|[^ \n]").matcher(text);
            while (m.find()) {
                words.add(m.group());
            }
            while (wrong < 0 && at < words.size()) {
                sentence();
            }
        }

        private String here() {
            return at < words.size() ? words.get(at) : "";
        }

        private void refuse(int word) {
            if (wrong < 0) {
                wrong = word;
            }
        }

        private void word(String... fine) {
            if (wrong < 0 && !Arrays.asList(fine).contains(here())) {
                refuse(at);
            }
            at += wrong < 0 ? 1 : 0;
        }

        private int number(int least, int most, Set<Integer> only, Set<Integer> not) {
            int v = here().matches("[0-9]{1,6}") ? Integer.parseInt(here()) : -1;
            boolean fine = v >= least && v <= most && (only == null || only.contains(v)) && (not == null || !not.contains(v));
            if (!fine) {
                refuse(at);
            }
            at += wrong < 0 ? 1 : 0;
            return v;
        }

        private void sentence() {
            String first = here();
            if (first.equals("when") && rows.size() == 50) {
                refuse(at);
                return;
            }
            word("zone", "act", "when", "hold");
            if (wrong >= 0) {
                return;
            }
            switch (first) {
                case "zone":
                    zone();
                    break;
                case "act":
                    int act = number(0, 19, null, acts.keySet());
                    word("kind");
                    int kind = number(0, 5, null, null);
                    word("rank");
                    int rank = number(0, 99, null, null);
                    word("delay");
                    int delay = number(0, 600, null, null);
                    word(";");
                    acts.put(act, new int[] {kind, rank, delay});
                    break;
                case "when":
                    int a = number(0, 19, zones.keySet(), null);
                    int b = a;
                    if (wrong < 0 && here().equals("&")) {
                        at++;
                        b = number(0, 19, zones.keySet(), Set.of(a));
                    }
                    word("does");
                    int does = number(0, 19, acts.keySet(), null);
                    word(";");
                    rows.add(new int[] {a, b, does});
                    break;
                default:
                    held.add(number(0, 19, acts.keySet(), held));
                    word(";");
                    break;
            }
        }

        private void zone() {
            int zone = number(0, 19, null, zones.keySet());
            word("needs");
            int needsAt = at;
            int needs = number(1, 12, null, null);
            word("of");
            Set<Integer> own = new HashSet<>();
            own.add(number(0, points - 1, null, own));
            while (wrong < 0 && !here().equals(";")) {
                if (own.size() == 12) {
                    refuse(at);
                } else {
                    own.add(number(0, points - 1, null, own));
                }
            }
            word(";");
            if (wrong < 0 && needs > own.size()) {
                refuse(needsAt);
            }
            int[] all = new int[own.size() + 1];
            all[0] = needs;
            int k = 1;
            for (int p : own) {
                all[k++] = p;
            }
            zones.put(zone, all);
        }
    }

    /** A lively one has switches alone as points, and needs and waits little. */
    private static String randomText(Random r, boolean lively) {
        StringBuilder text = new StringBuilder();
        List<Integer> zones = new ArrayList<>();
        List<Integer> acts = new ArrayList<>();
        for (int k = r.nextInt(3) + 1; k > 0; k--) {
            int zone = r.nextInt(20);
            int count = 1 + r.nextInt(r.nextInt(6) == 0 && !lively ? 12 : 4);
            List<Integer> points = new ArrayList<>();
            while (points.size() < count) {
                int p = lively ? 4 + r.nextInt(8) : r.nextInt(14);
                if (!points.contains(p)) {
                    points.add(p);
                }
            }
            text.append("zone ").append(zone).append(" needs ").append(1 + r.nextInt(lively ? Math.min(2, count) : count)).append(" of");
            for (int p : points) {
                text.append(' ').append(p);
            }
            text.append(" ;");
            zones.add(zone);
        }
        for (int k = r.nextInt(4) + 1; k > 0; k--) {
            int act = r.nextInt(20);
            acts.add(act);
            text.append(" act ").append(act).append(" kind ").append(r.nextInt(6)).append(" rank ").append(r.nextInt(r.nextBoolean() ? 3 : 100))
                .append(" delay ").append(r.nextInt(r.nextBoolean() || lively ? 6 : 601)).append(';');
        }
        int rows = r.nextInt(20) == 0 ? 49 + r.nextInt(4) : r.nextInt(6);
        for (int k = 0; k < rows; k++) {
            int a = zones.get(r.nextInt(zones.size()));
            int b = zones.get(r.nextInt(zones.size()));
            text.append("when ").append(a).append(a != b && r.nextBoolean() ? " & " + b : "").append(" does ").append(acts.get(r.nextInt(acts.size()))).append(';');
        }
        for (int act : acts) {
            text.append(r.nextInt(3) == 0 ? "hold " + act + ";" : "");
        }
        return text.toString();
    }

    private static final String[] CHANGES = {"zone", "act", "needs", "of", ";", "&", "0", "13", "20", "0000001", "000001", "when", "does", "hold", "x", "\n", " ",
        "kind", "rank", "delay", "100", "600", "601", "A", "~"};

    private static void randomTexts() {
        int good = 0;
        int wrong = 0;
        for (int seed = 0; seed < 4000; seed++) {
            Random r = new Random(seed);
            StringBuilder text = new StringBuilder(randomText(r, false));
            for (int k = r.nextInt(3); k > 0; k--) {
                int at = r.nextInt(text.length());
                String change = CHANGES[r.nextInt(CHANGES.length)];
                switch (r.nextInt(3)) {
                    case 0:
                        text.insert(at, change);
                        break;
                    case 1:
                        text.replace(at, at + 1, change);
                        break;
                    default:
                        text.delete(at, Math.min(text.length(), at + r.nextInt(6)));
                        break;
                }
            }
            Told told = new Told(text.toString(), 14);
            TowerHouse x = Houses.four();
            Houses.write(x, text.toString());
            int got = x.matrix();
            if (told.wrong >= 0) {
                wrong++;
                if (got != -1 - told.wrong) {
                    throw new AssertionError(text + " answered " + got + ", due is " + (-1 - told.wrong));
                }
                continue;
            }
            good++;
            Checks.due(told.rows.size(), got);
            for (int k = 0; k < 20; k++) {
                compareTables(x, told, k);
            }
        }
        if (good < 500 || wrong < 500) {
            throw new AssertionError(good + " good texts, " + wrong + " wrong ones");
        }
    }

    private static void compareTables(TowerHouse x, Told told, int k) {
        if (told.zones.containsKey(k)) {
            Checks.due(told.zones.get(k)[0], x.zone(k, 2));
        } else {
            Checks.argument(() -> x.zone(k, 0));
        }
        if (told.acts.containsKey(k)) {
            for (int what = 0; what < 3; what++) {
                Checks.due(told.acts.get(k)[what], x.act(k, 2 + what));
            }
            Checks.due(told.held.contains(k) ? 1 : 0, x.act(k, 5));
        } else {
            Checks.argument(() -> x.act(k, 0));
        }
    }

    /** The alarms of a house of 4 rooms, told as they are. */
    private static final class Model {
        Told told = new Told("", 14);
        final int[] values = new int[14];
        final boolean[] faulty = new boolean[14];
        final int[] disabled = new int[14];
        final String[] states = new String[20];
        final int[] since = new int[20];
        final boolean[] looked = new boolean[20];
        final boolean[] confirmed = new boolean[20];
        final List<int[]> events = new ArrayList<>();
        final int[] points = new int[10];
        // Telegrams that acts send to groups 4 to 9 make points, too; the model says none.
        boolean pointsByBus;
        int time;

        Model() {
            Arrays.fill(states, "rest");
        }

        boolean alive(int p) {
            return !faulty[p] && disabled[p] <= time;
        }

        int on(int zone) {
            int on = 0;
            int[] z = told.zones.get(zone);
            for (int k = 1; k < z.length; k++) {
                on += values[z[k]] >= 50 && alive(z[k]) ? 1 : 0;
            }
            return on;
        }

        boolean isOn(int zone) {
            return on(zone) >= told.zones.get(zone)[0];
        }

        boolean isSure(int zone) {
            int[] z = told.zones.get(zone);
            boolean any = false;
            for (int k = 1; k < z.length; k++) {
                if (alive(z[k])) {
                    any = true;
                    if (values[z[k]] < 50) {
                        return false;
                    }
                }
            }
            return any;
        }

        boolean called(int act, boolean surely) {
            for (int[] row : told.rows) {
                boolean met = isOn(row[0]) && isOn(row[1]);
                if (row[2] == act && met && (!surely || isSure(row[0]) || isSure(row[1]))) {
                    return true;
                }
            }
            return false;
        }

        List<Integer> byRank() {
            List<Integer> all = new ArrayList<>(told.acts.keySet());
            all.sort((a, b) -> Integer.compare(told.acts.get(b)[1], told.acts.get(a)[1]));
            return all;
        }

        void happen(int act, boolean done) {
            states[act] = done ? "done" : "rest";
            events.add(0, new int[] {time, act, done ? 1 : 0});
            int kind = told.acts.get(act)[0];
            pointsByBus |= kind == 2 && act >= 4 && act <= 9;
            if (kind == 3) {
                points[4 + act % 6] = done ? 1 : 0;
            }
        }

        void second() {
            time++;
            Arrays.fill(values, 0, 4, 0);
            for (int act : byRank()) {
                boolean called = called(act, false);
                String before = states[act];
                if (before.equals("rest") && called) {
                    states[act] = "waiting";
                    since[act] = time;
                    looked[act] = false;
                    confirmed[act] = false;
                }
                if (before.equals("waiting") && !called) {
                    states[act] = "rest";
                }
                if (before.equals("done") && !called && !told.held.contains(act)) {
                    happen(act, false);
                }
                boolean due = called && (since[act] + told.acts.get(act)[2] <= time || called(act, true) || confirmed[act]);
                if (states[act].equals("waiting") && due) {
                    happen(act, true);
                }
            }
        }

        int attend(boolean confirm) {
            int all = 0;
            for (int act = 0; act < 20; act++) {
                if (states[act].equals("waiting")) {
                    if (confirm && !confirmed[act]) {
                        confirmed[act] = true;
                        all++;
                    }
                    if (!confirm && !looked[act]) {
                        looked[act] = true;
                        since[act] = time;
                        all++;
                    }
                }
            }
            return all;
        }

        int reset() {
            int all = 0;
            for (int act : byRank()) {
                if (told.held.contains(act) && states[act].equals("done") && !called(act, false)) {
                    happen(act, false);
                    all++;
                }
            }
            return all;
        }
    }

    private static void randomAlarms() {
        int happened = 0;
        for (int seed = 0; seed < 400; seed++) {
            Random r = new Random(50000 + seed);
            TowerHouse x = Houses.four();
            Model m = new Model();
            takeText(r, x, m);
            for (int step = 0; step < 150; step++) {
                int point = r.nextInt(3) > 0 ? 4 + r.nextInt(8) : r.nextInt(14);
                boolean on = r.nextInt(4) == 0;
                switch (r.nextInt(14)) {
                    case 0:
                        Checks.due(m.faulty[point], x.fault(point, on));
                        m.faulty[point] = on;
                        break;
                    case 1:
                        int until = m.time + r.nextInt(8) - 2;
                        if (until >= 0) {
                            Checks.due(m.disabled[point], x.disable(point, until));
                            m.disabled[point] = until;
                        }
                        break;
                    case 2:
                        Checks.due(m.attend(on), x.attend(on ? 1 : 0));
                        break;
                    case 3:
                        Checks.due(m.reset(), x.reset());
                        break;
                    case 4:
                        if (r.nextInt(8) == 0) {
                            takeText(r, x, m);
                        }
                        break;
                    case 5:
                    case 6:
                    case 7:
                    case 8:
                        int seconds = 1 + r.nextInt(r.nextInt(4) == 0 ? 8 : 2);
                        x.pass(seconds);
                        for (int k = 0; k < seconds; k++) {
                            m.second();
                        }
                        break;
                    default:
                        int v = r.nextInt(3) > 0 ? 50 + r.nextInt(51) : r.nextInt(50);
                        Checks.due(m.values[point], x.signal(point, v));
                        m.values[point] = v;
                        break;
                }
                compare(x, m);
            }
            happened += m.events.size();
        }
        if (happened < 1500) {
            throw new AssertionError("just " + happened + " events");
        }
    }

    private static void takeText(Random r, TowerHouse x, Model m) {
        Told told = new Told("zone", 14);
        String text = "";
        while (told.wrong >= 0 || told.rows.isEmpty() || text.length() > 900) {
            text = randomText(r, true);
            told = new Told(text, 14);
        }
        x.cutText(x.unit(32));
        for (int zone : told.zones.keySet()) {
            StringBuilder own = new StringBuilder("zone " + zone + " needs " + told.zones.get(zone)[0] + " of");
            for (int k = 1; k < told.zones.get(zone).length; k++) {
                own.append(' ').append(told.zones.get(zone)[k]);
            }
            Houses.write(x, own + ";");
        }
        for (int act : told.acts.keySet()) {
            int[] a = told.acts.get(act);
            x.sentence(1, act, a[0], a[1], a[2]);
        }
        for (int[] row : told.rows) {
            x.sentence(row[0] == row[1] ? 2 : 3, row[0], row[0] == row[1] ? row[2] : row[1], row[2], 0);
        }
        for (int act : told.held) {
            x.sentence(4, act, 0, 0, 0);
        }
        Checks.due(told.rows.size(), x.matrix());
        m.told = told;
        Arrays.fill(m.states, "rest");
    }

    private static void compare(TowerHouse x, Model m) {
        int done = 0;
        for (int act : m.told.acts.keySet()) {
            int state = Arrays.asList("rest", "waiting", "done").indexOf(m.states[act]);
            done += state == 2 ? 1 : 0;
            Checks.due(state, x.act(act, 0));
            Checks.due(state == 1 ? m.since[act] : -1, x.act(act, 1));
        }
        Checks.due(done, x.told(2));
        for (int k = 4; k < 10 && !m.pointsByBus; k++) {
            Checks.due(m.points[k], x.pointAt(k));
        }
        for (int kind = 0; kind < 5; kind++) {
            boolean any = false;
            for (int act : m.told.acts.keySet()) {
                any |= m.told.acts.get(act)[0] == kind && m.states[act].equals("done");
            }
            if (kind == 0 || kind == 1 || kind == 4) {
                Checks.due(any ? 1 : 0, x.told(kind == 0 ? 5 : kind == 1 ? 6 : 7));
            }
        }
        for (int zone : m.told.zones.keySet()) {
            Checks.due(m.isOn(zone) ? 1 : 0, x.zone(zone, 0));
            Checks.due(m.isSure(zone) ? 1 : 0, x.zone(zone, 1));
            Checks.due(m.on(zone), x.zone(zone, 3));
        }
        int kept = Math.min(60, m.events.size());
        for (int k = 0; k < kept; k++) {
            for (int what = 0; what < 3; what++) {
                Checks.due(m.events.get(k)[what], x.event(k, what));
            }
        }
        Checks.argument(() -> x.event(kept, 0));
    }
}
