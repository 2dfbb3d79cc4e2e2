import java.util.Random;

/** Promises 22 to 24: stations, telegrams, disturbances, what is heard. */
final class BusTest {
    private BusTest() {
    }

    static void all() {
        Checks.test("P22 address, listen, busy: what was, wrong calls", BusTest::settings);
        Checks.test("P23 send: queues, wrong calls", BusTest::queues);
        Checks.test("P23 send: the bytes of a telegram, said and answered", BusTest::bytes);
        Checks.test("P23 send: high bytes of sender and aim", BusTest::highBytes);
        Checks.test("P23 send: idle, waiting, priorities", BusTest::idle);
        Checks.test("P23 send: the line is 0 if one sends 0", BusTest::contention);
        Checks.test("P23 send: said again, lost", BusTest::repeated);
        Checks.test("P23 station: saying, waiting", BusTest::states);
        Checks.test("P23 disturb: told once, at most 50, wrong calls", BusTest::disturbances);
        Checks.test("P24 heard: answers, busy ones, wrong telegrams, noise", BusTest::heard);
        Checks.test("P24 heard: who answers", BusTest::whoAnswers);
        Checks.test("P24 heard: no answer behind another thing", BusTest::aloneWithTheTelegram);
        Checks.test("P24 heard: program points", BusTest::programPoints);
        Checks.test("P24 byteAt: answers and wrong calls", BusTest::byteAt);
        Checks.test("P22-24 random runs as in the model", BusTest::randomRuns);
        Checks.test("P22-24 before the house is built", BusTest::planned);
    }

    private static void settings() {
        TowerHouse x = Houses.four();
        for (int k = 0; k < 8; k++) {
            Checks.due(k, x.address(k, 65535 - k));
            Checks.due(65535 - k, x.address(k, 0));
            Checks.due(false, x.listen(k, 255, true));
            Checks.due(true, x.listen(k, 255, true));
            Checks.due(true, x.listen(k, 255, false));
            Checks.due(false, x.listen(k, 255, false));
            Checks.due(false, x.listen(k, 0, true));
            Checks.due(false, x.busy(k, true));
            Checks.due(true, x.busy(k, false));
            Checks.due(false, x.busy(k, true));
        }
        Checks.argument(() -> x.address(8, 0));
        Checks.argument(() -> x.address(-1, 0));
        Checks.argument(() -> x.address(0, -1));
        Checks.argument(() -> x.address(0, 65536));
        Checks.argument(() -> x.listen(8, 0, true));
        Checks.argument(() -> x.listen(-1, 0, true));
        Checks.argument(() -> x.listen(0, 256, true));
        Checks.argument(() -> x.listen(0, -1, true));
        Checks.argument(() -> x.busy(8, true));
        Checks.argument(() -> x.busy(-1, true));
    }

    private static void queues() {
        TowerHouse x = Houses.four();
        for (int k = 1; k <= 6; k++) {
            Checks.due(k, x.send(0, 3, 65535, false, 14, 255));
        }
        Checks.state(() -> x.send(0, 3, 65535, false, 14, 255));
        Checks.due(6, x.station(0, 0));
        Checks.due(1, x.send(7, 0, 255, true, 1, 0));
        Checks.argument(() -> x.send(8, 0, 0, true, 1, 0));
        Checks.argument(() -> x.send(-1, 0, 0, true, 1, 0));
        Checks.argument(() -> x.send(1, 4, 0, true, 1, 0));
        Checks.argument(() -> x.send(1, -1, 0, true, 1, 0));
        Checks.argument(() -> x.send(1, 0, 256, true, 1, 0));
        Checks.argument(() -> x.send(1, 0, 65536, false, 1, 0));
        Checks.argument(() -> x.send(1, 0, -1, false, 1, 0));
        Checks.argument(() -> x.send(1, 0, 0, true, 0, 0));
        Checks.argument(() -> x.send(1, 0, 0, true, 15, 0));
        Checks.argument(() -> x.send(1, 0, 0, true, 1, 256));
        Checks.argument(() -> x.send(1, 0, 0, true, 1, -1));
        Checks.argument(() -> x.send(0, 3, 65535, false, 15, 255));
    }

    private static void bytes() {
        TowerHouse x = Houses.four();
        x.address(2, 0x1234);
        x.address(5, 0xabcd);
        x.send(2, 1, 0xabcd, false, 3, 254);
        x.address(2, 0);
        // 10 characters: 128 bit times, heard at 131; the answer begins at 142 and is heard at 155.
        x.pass(4);
        Checks.argument(() -> x.byteAt(0));
        x.pass(1);
        long[] want = {180, 0x12, 0x34, 0xab, 0xcd, 2, 254, 255, 0, 255 ^ 180 ^ 0x12 ^ 0x34 ^ 0xab ^ 0xcd ^ 2 ^ 254 ^ 255};
        for (int k = 0; k < want.length; k++) {
            Checks.due(want[k], x.byteAt(k));
        }
        Checks.argument(() -> x.byteAt(10));
        Checks.due(-1, x.byteAt(-1));
        Checks.due(0, x.station(2, 3));
        x.pass(1);
        Checks.due(204, x.byteAt(-1));
        Checks.due(1, x.station(2, 3));
        Checks.due(0, x.station(2, 0));
        Checks.due(1, x.heard(0));
        Checks.due(1, x.heard(1));
        Checks.due(0, x.heard(2));
        Checks.due(1, x.heard(3));
        Checks.due(0, x.heard(4));
    }

    private static void highBytes() {
        TowerHouse x = Houses.four();
        x.address(2, 0xff00);
        x.send(2, 3, 0xfe00, false, 1, 255);
        x.pass(4);
        long[] want = {188, 255, 0, 254, 0, 0, 255, 255 ^ 188 ^ 255 ^ 254 ^ 255};
        for (int k = 0; k < want.length; k++) {
            Checks.due(want[k], x.byteAt(k));
        }
        Checks.due(1, x.heard(1));
    }

    private static void idle() {
        // Behind an answer of which the last 0 is in bit time T + 23: 51 behind this one begins in T + 74.
        TowerHouse x = Houses.four();
        x.send(0, 0, 1, false, 1, 0);
        x.send(0, 0, 1, false, 1, 1);
        // 8 characters: T is 102; the second one begins in 102 + 74 = 176.
        Houses.pass(x, 5);
        Checks.due(0, x.station(0, 1));
        Checks.due(1, x.station(0, 3));
        x.pass(1);
        Checks.due(1, x.station(0, 1));
        // Of priority 2 it is 179, the same second; it is not yet heard in bit time 280 as that of priority 0 is.
        TowerHouse[] two = {Houses.four(), Houses.four()};
        for (int k = 0; k < 2; k++) {
            two[k].send(0, 0, 1, false, 1, 0);
            two[k].send(0, 2 * k, 1, false, 1, 1);
            two[k].disturb(177);
            two[k].pass(10);
        }
        // The disturbance comes into the second bit of the one; it keeps the other from beginning before 228.
        Checks.due(0, two[0].station(0, 5));
        Checks.due(0, two[1].station(0, 5));
        Checks.due(1, two[0].byteAt(6));
        Checks.due(0, two[1].byteAt(6));
        two[1].pass(1);
        Checks.due(0, two[1].byteAt(6));
        two[1].pass(1);
        Checks.due(1, two[1].byteAt(6));
    }

    private static void contention() {
        TowerHouse x = Houses.four();
        // Both begin at once; the control bytes are 176 and 180: the third bit of them, in bit time 4, differs.
        x.send(0, 1, 2, false, 1, 0);
        x.send(1, 0, 2, false, 1, 0);
        x.pass(1);
        Checks.due(0, x.station(0, 1));
        Checks.due(1, x.station(0, 5));
        Checks.due(1, x.station(1, 1));
        Checks.due(0, x.station(1, 5));
        x.pass(5);
        Checks.due(1, x.station(1, 3));
        Checks.due(1, x.byteAt(2));
        x.pass(7);
        Checks.due(1, x.station(0, 3));
        Checks.due(180, x.byteAt(0));
        // Two that say the same are said together, and both wait.
        TowerHouse y = Houses.four();
        y.address(1, 0);
        y.address(2, 0);
        y.send(0, 0, 0, false, 1, 5);
        y.send(1, 0, 0, false, 1, 5);
        y.pass(6);
        Checks.due(1, y.heard(0));
        Checks.due(1, y.station(0, 3));
        Checks.due(1, y.station(1, 3));
        Checks.due(1, y.heard(3));
    }

    private static void repeated() {
        TowerHouse x = Houses.four();
        x.send(0, 2, 99, false, 1, 7);
        x.send(0, 2, 1, false, 1, 8);
        // Nobody answers: T is 102, waited until 130; IDLE is 50 long before.
        Houses.pass(x, 4);
        Checks.due(1, x.heard(0));
        Checks.due(176 + 8, x.byteAt(0));
        Checks.due(2, x.station(0, 0));
        // The second time it begins behind the waiting (bit time 153, 51 behind the last 0), and ends about 102 later.
        Houses.pass(x, 5);
        Checks.due(2, x.heard(0));
        Checks.due(144 + 8, x.byteAt(0));
        Checks.due(0, x.station(0, 4));
        Houses.pass(x, 12);
        Checks.due(4, x.heard(0));
        Checks.due(1, x.station(0, 4));
        Checks.due(0, x.station(0, 3));
        Checks.due(1, x.station(0, 0));
        Houses.pass(x, 5);
        Checks.due(176 + 8, x.byteAt(0));
        Checks.due(8, x.byteAt(6));
        Checks.due(1, x.station(0, 3));
        Checks.due(0, x.station(0, 0));
        Checks.due(5, x.heard(1));
    }

    private static void states() {
        TowerHouse x = Houses.four();
        x.send(0, 0, 9, false, 1, 0);
        Checks.row(Checks.of(1, 0, 0, 0, 0, 0), Facts.station(x, 0));
        x.pass(1);
        Checks.row(Checks.of(1, 1, 0, 0, 0, 0), Facts.station(x, 0));
        x.pass(3);
        // T is 102; it waits up to 130.
        Checks.row(Checks.of(1, 0, 1, 0, 0, 0), Facts.station(x, 0));
        x.pass(1);
        Checks.row(Checks.of(1, 0, 0, 0, 0, 0), Facts.station(x, 0));
        Checks.argument(() -> x.station(8, 0));
        Checks.argument(() -> x.station(-1, 0));
        Checks.argument(() -> x.station(0, 6));
        Checks.argument(() -> x.station(0, -1));
    }

    private static void disturbances() {
        TowerHouse x = Houses.four();
        Checks.due(true, x.disturb(2000));
        Checks.due(false, x.disturb(2000));
        Checks.due(true, x.disturb(1));
        Checks.argument(() -> x.disturb(0));
        Checks.argument(() -> x.disturb(2001));
        for (int k = 0; k < 48; k++) {
            Checks.due(true, x.disturb(100 + 20 * k));
        }
        Checks.state(() -> x.disturb(99));
        Checks.state(() -> x.disturb(2000));
        Checks.argument(() -> x.disturb(2001));
        x.pass(1);
        Checks.due(1, x.heard(2));
        Checks.due(false, x.disturb(1970));
        Checks.due(true, x.disturb(2000));
        Checks.state(() -> x.disturb(5));
        // The next second's first bit time is the one that is 1 behind. A 0 that comes 13 behind another one begins the
        // next character of the same thing, one that comes earlier or later another thing.
        int[] things = {2, 2, 1, 2};
        for (int k = 0; k < 4; k++) {
            TowerHouse y = Houses.four();
            y.pass(1);
            y.disturb(1);
            y.disturb(12 + k);
            y.pass(1);
            Checks.due(things[k], y.heard(2));
            Checks.due(0, y.heard(0));
        }
    }

    private static void heard() {
        TowerHouse x = Houses.four();
        x.busy(1, true);
        x.send(0, 0, 1, false, 1, 0);
        Houses.pass(x, 6);
        Checks.due(192, x.byteAt(-1));
        Checks.due(1, x.heard(4));
        Checks.due(0, x.heard(3));
        Checks.due(0, x.station(0, 3));
        x.busy(1, false);
        Houses.pass(x, 6);
        Checks.due(204, x.byteAt(-1));
        Checks.due(1, x.heard(3));
        Checks.due(1, x.station(0, 3));
        Checks.argument(() -> x.heard(5));
        Checks.argument(() -> x.heard(-1));
        // One that is busy and one that is not: the line makes 192 of 192 and 204.
        TowerHouse y = Houses.four();
        y.address(2, 1);
        y.busy(2, true);
        y.send(0, 0, 1, false, 1, 0);
        Houses.pass(y, 6);
        Checks.due(192, y.byteAt(-1));
        // Two bits of data are disturbed: no character is bad, but the check is wrong, and that is answered by 12.
        TowerHouse z = Houses.four();
        z.send(0, 0, 1, false, 1, 3);
        z.disturb(6 * 13 + 2);
        z.pass(1);
        Checks.due(1, z.station(0, 1));
        z.pass(2);
        Checks.due(0, z.station(0, 1));
        Checks.due(1, z.station(0, 5));
        // The line was 1 behind: the character that was cut off is bad, and 7 of them are no telegram.
        z.pass(1);
        Checks.due(1, z.heard(2));
        Checks.due(0, z.heard(0));
        Houses.pass(z, 8);
        Checks.due(1, z.heard(1));
        Checks.due(176, z.byteAt(0));
        Checks.due(1, z.station(0, 3));
    }

    private static void whoAnswers() {
        TowerHouse x = Houses.four();
        x.listen(3, 1, true);
        x.listen(0, 1, true);
        x.busy(1, true);
        x.busy(0, true);
        // To the group 1: station 3 answers, not station 1 with this address, and not the one that waits.
        x.send(0, 0, 1, true, 1, 0);
        Houses.pass(x, 6);
        Checks.due(204, x.byteAt(-1));
        // It is looked at when it answers: 102 + 14 is in second 4.
        TowerHouse y = Houses.four();
        y.send(0, 0, 77, false, 1, 0);
        y.pass(3);
        y.address(5, 77);
        Houses.pass(y, 3);
        Checks.due(204, y.byteAt(-1));
        TowerHouse z = Houses.four();
        z.listen(4, 8, true);
        z.send(0, 0, 8, true, 1, 0);
        z.pass(3);
        z.listen(4, 8, false);
        Houses.pass(z, 3);
        Checks.due(-1, z.byteAt(-1));
    }

    private static void aloneWithTheTelegram() {
        // T is 102. A 0 behind the last bit begins another thing, which is complete in bit time 114: nobody answers then.
        TowerHouse x = Houses.four();
        x.send(0, 0, 1, false, 1, 0);
        x.disturb(103);
        x.disturb(114);
        x.pass(5);
        Checks.due(1, x.heard(1));
        Checks.due(2, x.heard(2));
        Checks.due(0, x.heard(3) + x.heard(4));
        Checks.due(-1, x.byteAt(-1));
        Checks.due(0, x.station(0, 3));
        Checks.due(0, x.station(0, 2));
        // If it is not yet complete in T + 14 station 1 does answer, but its character is the second one of that thing. Its
        // last 0 is in bit time 125, so the telegram is said again from 176 to 277.
        TowerHouse y = Houses.four();
        y.send(0, 0, 1, false, 1, 0);
        y.disturb(103);
        y.pass(9);
        Checks.due(1, y.heard(0));
        Checks.due(1, y.heard(2));
        Checks.due(-1, y.byteAt(-1));
        y.pass(1);
        Checks.due(2, y.heard(0));
        Checks.due(144, y.byteAt(0));
    }

    private static void programPoints() {
        TowerHouse x = Houses.four();
        x.listen(1, 9, true);
        x.listen(1, 4, true);
        x.listen(1, 3, true);
        x.point(9, -5);
        x.send(0, 0, 9, true, 2, 200);
        Houses.pass(x, 3);
        Checks.due(-5, x.pointAt(9));
        x.pass(1);
        Checks.due(200, x.pointAt(9));
        x.send(0, 0, 4, true, 1, 33);
        Houses.pass(x, 10);
        Checks.due(33, x.pointAt(4));
        // To an address 5 it makes no point.
        x.send(0, 0, 5, false, 1, 33);
        Houses.pass(x, 10);
        Checks.due(0, x.pointAt(5));
        x.send(0, 0, 3, true, 1, 33);
        Houses.pass(x, 10);
        Checks.due(0, x.pointAt(3));
    }

    private static void byteAt() {
        TowerHouse x = Houses.four();
        Checks.due(-1, x.byteAt(-1));
        Checks.argument(() -> x.byteAt(0));
        Checks.argument(() -> x.byteAt(-2));
        x.send(0, 0, 1, false, 1, 0);
        Houses.pass(x, 5);
        Checks.due(204, x.byteAt(-1));
        Checks.due(176, x.byteAt(0));
        Checks.argument(() -> x.byteAt(8));
        Checks.argument(() -> x.byteAt(Integer.MAX_VALUE));
        // A new telegram has no answer yet.
        x.send(0, 0, 100, false, 2, 0);
        Houses.pass(x, 10);
        Checks.due(-1, x.byteAt(-1));
        Checks.due(1, x.byteAt(7));
    }

    private static void compare(TowerHouse x, BusModel m) {
        for (int s = 0; s < 8; s++) {
            for (int what = 0; what < 6; what++) {
                Checks.due(m.station(s, what), x.station(s, what));
            }
        }
        for (int what = 0; what < 5; what++) {
            Checks.due(m.heard(what), x.heard(what));
        }
        for (int k = 4; k < 10; k++) {
            Checks.due(m.points[k], x.pointAt(k));
        }
        for (int k = -1; k < 24; k++) {
            if (m.byteAt(k) == -2) {
                int i = k;
                Checks.argument(() -> x.byteAt(i));
            } else {
                Checks.due(m.byteAt(k), x.byteAt(k));
            }
        }
    }

    private static void randomRuns() {
        for (int seed = 0; seed < 120; seed++) {
            Random r = new Random(seed);
            TowerHouse x = Houses.four();
            BusModel m = new BusModel();
            int stations = 2 + r.nextInt(7);
            int noise = r.nextInt(4);
            for (int step = 0; step < 60; step++) {
                randomCall(r, x, m, stations, noise);
                if (r.nextInt(3) == 0) {
                    int seconds = 1 + r.nextInt(5);
                    x.pass(seconds);
                    for (int k = 0; k < seconds; k++) {
                        m.second();
                    }
                    compare(x, m);
                }
            }
        }
    }

    private static void randomCall(Random r, TowerHouse x, BusModel m, int stations, int noise) {
        int s = r.nextInt(stations);
        boolean on = r.nextInt(3) > 0;
        int group = r.nextInt(4) + 3;
        switch (r.nextInt(7 + noise)) {
            case 0:
                int address = r.nextInt(5) == 0 ? 65535 : r.nextInt(4);
                Checks.due(m.address(s, address), x.address(s, address));
                break;
            case 1:
            case 2:
                Checks.due(m.listen(s, group, on), x.listen(s, group, on));
                break;
            case 3:
                Checks.due(m.busy(s, !on), x.busy(s, !on));
                break;
            case 4:
            case 5:
            case 6:
                int priority = r.nextInt(4);
                boolean toGroup = r.nextBoolean();
                int aim = toGroup ? group : r.nextInt(4);
                int n = 1 + r.nextInt(r.nextBoolean() ? 2 : 14);
                int b = r.nextInt(4) == 0 ? 255 : r.nextInt(3);
                int want = m.send(s, priority, aim, toGroup, n, b);
                if (want < 0) {
                    Checks.state(() -> x.send(s, priority, aim, toGroup, n, b));
                } else {
                    Checks.due(want, x.send(s, priority, aim, toGroup, n, b));
                }
                break;
            default:
                int behind = 1 + r.nextInt(r.nextBoolean() ? 200 : 40);
                if (m.pending() == 50) {
                    Checks.state(() -> x.disturb(behind));
                } else {
                    Checks.due(m.disturb(behind), x.disturb(behind));
                }
                break;
        }
    }

    private static void planned() {
        TowerHouse x = Houses.fourPlanned();
        Checks.state(() -> x.address(0, 0));
        Checks.argument(() -> x.address(8, 0));
        Checks.state(() -> x.listen(0, 0, true));
        Checks.argument(() -> x.listen(0, 256, true));
        Checks.state(() -> x.busy(0, true));
        Checks.argument(() -> x.busy(8, true));
        Checks.state(() -> x.send(0, 0, 0, true, 1, 0));
        Checks.argument(() -> x.send(0, 0, 0, true, 0, 0));
        Checks.state(() -> x.disturb(1));
        Checks.argument(() -> x.disturb(0));
        Checks.state(() -> x.station(0, 0));
        Checks.argument(() -> x.station(0, 6));
        Checks.state(() -> x.heard(0));
        Checks.argument(() -> x.heard(5));
        Checks.state(() -> x.byteAt(-1));
        Checks.argument(() -> x.byteAt(0));
    }
}
