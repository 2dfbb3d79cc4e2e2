/** The edges that promises 22 to 24 name of stations and the line, a test for each of their sentences. */
final class BusEdgeTest {
    private static final int LEAST = Integer.MIN_VALUE;
    private static final int GREATEST = Integer.MAX_VALUE;
    private static final int[] NO_STATION = {-1, 8, LEAST, GREATEST};

    private BusEdgeTest() {
    }

    static void all() {
        Checks.test("P22 edge: address '0 .. 65535; the station's number at first'", BusEdgeTest::addresses);
        Checks.test("P22 edge: listen, 'groups 0 .. 255'", BusEdgeTest::groups);
        Checks.test("P22 edge: busy, whether it was", BusEdgeTest::busies);
        Checks.test("P23 edge: send, 'n is not 1 .. 14, b no byte, the aim no address or no group'", BusEdgeTest::sendNumbers);
        Checks.test("P23 edge: send, 'also if there are 6'", BusEdgeTest::sixTelegrams);
        Checks.test("P23 edge: send, 'b, b + 1, .. (modulo 256)', 'with the address that the station has now'", BusEdgeTest::dataBytes);
        Checks.test("P23 edge: disturb, '(1 .. 2000): whether it was not told before'", BusEdgeTest::disturbNumbers);
        Checks.test("P23 edge: disturb, 'also if 50 were told that have not been yet'", BusEdgeTest::fiftyDisturbances);
        Checks.test("P23 edge: IDLE is 'as many as you like at first'", BusEdgeTest::idleAtFirst);
        Checks.test("P23 edge: 'if IDLE is 50 or more'", BusEdgeTest::idleFifty);
        Checks.test("P23 edge: '(53 or more, if the priority is 2 or 3 and it is said for the first time)'", BusEdgeTest::idleFiftyThree);
        Checks.test("P23 edge: 'If it sends a 1 and the line is 0, it stops at once'", BusEdgeTest::stops);
        Checks.test("P23 edge: 'the station WAITS up to bit time T + 28'", BusEdgeTest::waits);
        Checks.test("P23 edge: 'LOST, if it was said four times', '32 less if it was said before'", BusEdgeTest::lost);
        Checks.test("P23 edge: station, wrong numbers", BusEdgeTest::stationNumbers);
    }

    /** The line was 0 in bit time d (1 .. 60), and is 1 since: what is sent now begins in bit time d + 51. */
    private static TowerHouse idleSince(int d) {
        TowerHouse x = Houses.four();
        x.disturb(d);
        x.pass(d <= 30 ? 1 : 2);
        return x;
    }

    private static void passTo(TowerHouse x, int second) {
        Houses.pass(x, second - x.told(8));
    }

    private static void addresses() {
        TowerHouse x = Houses.four();
        int[] wrong = {-1, 65536, LEAST, GREATEST};
        for (int v : wrong) {
            Checks.argument(() -> x.address(0, v));
        }
        for (int v : NO_STATION) {
            Checks.argument(() -> x.address(v, 0));
        }
        for (int k = 0; k < 8; k++) {
            Checks.due(k, x.address(k, 65535));
            Checks.due(65535, x.address(k, 0));
            Checks.due(0, x.address(k, k));
        }
    }

    private static void groups() {
        TowerHouse x = Houses.four();
        int[] wrong = {-1, 256, LEAST, GREATEST};
        for (int v : wrong) {
            Checks.argument(() -> x.listen(0, v, true));
        }
        for (int v : NO_STATION) {
            Checks.argument(() -> x.listen(v, 0, true));
        }
        for (int k = 0; k < 8; k++) {
            for (int group = 0; group < 256; group += 255) {
                Checks.due(false, x.listen(k, group, false));
                Checks.due(false, x.listen(k, group, true));
                Checks.due(true, x.listen(k, group, true));
            }
        }
        // Stations side by side have nothing in common.
        Checks.due(true, x.listen(3, 255, false));
        Checks.due(true, x.listen(4, 0, true));
        Checks.due(true, x.listen(3, 0, true));
        Checks.due(false, x.listen(3, 254, true));
    }

    private static void busies() {
        TowerHouse x = Houses.four();
        for (int v : NO_STATION) {
            Checks.argument(() -> x.busy(v, true));
        }
        for (int k = 0; k < 8; k++) {
            Checks.due(false, x.busy(k, false));
            Checks.due(false, x.busy(k, true));
            Checks.due(true, x.busy(k, true));
        }
        Checks.due(true, x.busy(0, false));
        Checks.due(false, x.busy(0, false));
        Checks.due(true, x.busy(7, false));
    }

    private static void sendNumbers() {
        TowerHouse x = Houses.four();
        for (int v : NO_STATION) {
            Checks.argument(() -> x.send(v, 0, 0, false, 1, 0));
        }
        int[] noPriority = {-1, 4, LEAST, GREATEST};
        int[] noAddress = {-1, 65536, LEAST, GREATEST};
        int[] noGroup = {-1, 256, 65535, LEAST, GREATEST};
        int[] noLength = {-1, 0, 15, LEAST, GREATEST};
        int[] noByte = {-1, 256, LEAST, GREATEST};
        for (int v : noPriority) {
            Checks.argument(() -> x.send(0, v, 0, false, 1, 0));
        }
        for (int v : noAddress) {
            Checks.argument(() -> x.send(0, 0, v, false, 1, 0));
        }
        for (int v : noGroup) {
            Checks.argument(() -> x.send(0, 0, v, true, 1, 0));
        }
        for (int v : noLength) {
            Checks.argument(() -> x.send(0, 0, 0, false, v, 0));
        }
        for (int v : noByte) {
            Checks.argument(() -> x.send(0, 0, 0, false, 1, v));
        }
        Checks.due(0, x.station(0, 0));
        Checks.due(1, x.send(0, 0, 0, false, 1, 0));
        Checks.due(2, x.send(0, 3, 65535, false, 14, 255));
        Checks.due(3, x.send(0, 3, 255, true, 14, 255));
        Checks.due(1, x.send(7, 3, 256, false, 14, 255));
    }

    private static void sixTelegrams() {
        TowerHouse x = Houses.four();
        for (int k = 1; k <= 6; k++) {
            Checks.due(k, x.send(0, 0, 1, false, 1, k));
        }
        Checks.state(() -> x.send(0, 0, 1, false, 1, 7));
        Checks.argument(() -> x.send(0, 0, 1, false, 15, 7));
        // That which is being said, and for which it waits, is one of the six.
        x.pass(1);
        Checks.due(1, x.station(0, 1));
        Checks.state(() -> x.send(0, 0, 1, false, 1, 7));
        x.pass(3);
        Checks.due(1, x.station(0, 2));
        Checks.state(() -> x.send(0, 0, 1, false, 1, 7));
        x.pass(1);
        Checks.due(5, x.station(0, 0));
        Checks.due(6, x.send(0, 0, 1, false, 1, 7));
        Checks.due(1, x.send(1, 0, 1, false, 1, 0));
        // The first one is what is said next.
        int said = 1;
        for (int k = 0; k < 80 && said < 8; k++) {
            x.pass(1);
            if (x.byteAt(2) == 0 && x.byteAt(6) != said - 1) {
                Checks.due(said, x.byteAt(6));
                said++;
            }
        }
        Checks.due(8, said);
    }

    private static void dataBytes() {
        TowerHouse x = Houses.four();
        x.address(3, 65535);
        x.send(3, 3, 65535, false, 14, 250);
        x.address(3, 258);
        x.send(3, 3, 0, true, 2, 255);
        x.pass(10);
        long[] head = {188, 255, 255, 255, 255, 13};
        int check = 255 ^ 188 ^ 13;
        for (int k = 0; k < 6; k++) {
            Checks.due(head[k], x.byteAt(k));
        }
        for (int k = 0; k < 14; k++) {
            Checks.due((250 + k) % 256, x.byteAt(6 + k));
            check = check ^ (250 + k) % 256;
        }
        Checks.due(check, x.byteAt(20));
        Checks.argument(() -> x.byteAt(21));
        x.address(5, 65535);
        passTo(x, 40);
        // The second one was told with the address that it had then; nobody took the first one at first.
        Checks.row(Checks.of(188 - 32, 1, 2, 0, 0, 129, 255, 0), Checks.of(x.byteAt(0), x.byteAt(1), x.byteAt(2), x.byteAt(3), x.byteAt(4),
            x.byteAt(5), x.byteAt(6), x.byteAt(7)));
    }

    private static void disturbNumbers() {
        TowerHouse x = Houses.four();
        int[] wrong = {0, -1, 2001, LEAST, GREATEST};
        for (int v : wrong) {
            Checks.argument(() -> x.disturb(v));
        }
        Checks.due(true, x.disturb(1));
        Checks.due(false, x.disturb(1));
        Checks.due(true, x.disturb(2000));
        Checks.due(false, x.disturb(2000));
        Checks.due(true, x.disturb(31));
        x.pass(1);
        // Bit time 1 has been; 31 and 2000 are 1 and 1970 behind now.
        Checks.due(false, x.disturb(1));
        Checks.due(false, x.disturb(1970));
        Checks.due(true, x.disturb(1971));
        Checks.due(true, x.disturb(1969));
        Checks.due(true, x.disturb(2000));
        // A 0 in bit time d is a character up to d + 10, and complete with the third 1 behind it.
        TowerHouse y = Houses.four();
        y.disturb(17);
        y.pass(1);
        Checks.due(1, y.heard(2));
        TowerHouse z = Houses.four();
        z.disturb(18);
        z.pass(1);
        Checks.due(0, z.heard(2));
        z.pass(1);
        Checks.due(1, z.heard(2));
        // Told once, it is once: not again 2001 bit times later, which may be told as another one.
        TowerHouse u = Houses.four();
        u.disturb(1);
        passTo(u, 66);
        Checks.due(1, u.heard(2));
        passTo(u, 68);
        Checks.due(1, u.heard(2));
        TowerHouse v = Houses.four();
        v.disturb(1);
        passTo(v, 66);
        Checks.due(true, v.disturb(22));
        passTo(v, 68);
        Checks.due(2, v.heard(2));
        // The farthest one: bit time 2000 is in second 67, and what began there is complete in 2013, in second 68.
        TowerHouse w = Houses.four();
        w.disturb(2000);
        passTo(w, 67);
        Checks.due(0, w.heard(2));
        passTo(w, 68);
        Checks.due(1, w.heard(2));
    }

    private static void fiftyDisturbances() {
        TowerHouse x = Houses.four();
        for (int k = 0; k < 49; k++) {
            Checks.due(true, x.disturb(31 + k));
            Checks.due(false, x.disturb(31 + k));
        }
        Checks.due(true, x.disturb(30));
        Checks.state(() -> x.disturb(29));
        Checks.state(() -> x.disturb(30));
        Checks.argument(() -> x.disturb(0));
        Checks.argument(() -> x.disturb(2001));
        x.pass(1);
        // One has been: there is room for one more.
        Checks.due(false, x.disturb(1));
        Checks.due(true, x.disturb(2000));
        Checks.state(() -> x.disturb(1));
        x.pass(1);
        for (int k = 0; k < 30; k++) {
            Checks.due(true, x.disturb(100 + k));
        }
        Checks.state(() -> x.disturb(99));
    }

    private static void idleAtFirst() {
        // Begun in bit time 1, 14 less 7 bytes: T is 102 + 6 * 13 = 180, the last bit time of second 6.
        for (int priority = 0; priority < 4; priority++) {
            TowerHouse x = Houses.four();
            x.send(0, priority, 99, false, 7, 0);
            x.pass(5);
            Checks.row(Checks.of(1, 1, 0, 0, 0, 0), Facts.station(x, 0));
            x.pass(1);
            Checks.row(Checks.of(1, 0, 1, 0, 0, 0), Facts.station(x, 0));
        }
    }

    /** Whether a telegram of one byte that begins in bit time b (T is b + 101) is said in this second's end. */
    private static void begun(TowerHouse x, int second, int saying, int waiting) {
        passTo(x, second);
        Checks.row(Checks.of(saying, waiting), Checks.of(x.station(0, 1), x.station(0, 2)));
    }

    private static void idleFifty() {
        // 0 in bit time 28: begun in 79, T is 180; 0 in bit time 29: T is 181.
        for (int priority = 0; priority < 2; priority++) {
            TowerHouse x = idleSince(28);
            x.send(0, priority, 99, false, 1, 0);
            begun(x, 6, 0, 1);
            TowerHouse y = idleSince(29);
            y.send(0, priority, 99, false, 1, 0);
            begun(y, 6, 1, 0);
        }
        // Begun in the last bit time of a second, and in the first of the next one: 0 in bit time 9, 10.
        TowerHouse x = idleSince(9);
        x.send(0, 0, 99, false, 1, 0);
        begun(x, 2, 1, 0);
        TowerHouse y = idleSince(10);
        y.send(0, 0, 99, false, 1, 0);
        begun(y, 2, 0, 0);
        begun(y, 3, 1, 0);
    }

    private static void idleFiftyThree() {
        for (int priority = 2; priority < 4; priority++) {
            TowerHouse x = idleSince(25);
            x.send(0, priority, 99, false, 1, 0);
            begun(x, 6, 0, 1);
            TowerHouse y = idleSince(26);
            y.send(0, priority, 99, false, 1, 0);
            begun(y, 6, 1, 0);
            Checks.due(0, y.station(0, 5));
        }
        // Said before, 50 are enough: of this one the check is 35, and its last 0 is in bit time T - 2.
        // With a 0 in bit time d it begins in d + 54, T is d + 155; it begins again in d + 153 + 51, and T is d + 305.
        TowerHouse x = idleSince(25);
        x.send(0, 2, 99, false, 1, 7);
        begun(x, 7, 0, 0);
        begun(x, 10, 1, 0);
        begun(x, 11, 0, 1);
        TowerHouse y = idleSince(26);
        y.send(0, 2, 99, false, 1, 7);
        begun(y, 11, 1, 0);
        // Priority 1 and 2 at once: that of less begins earlier, and the other one finds the line 0 before it could begin.
        TowerHouse z = idleSince(20);
        z.send(0, 2, 99, false, 1, 7);
        z.send(1, 1, 99, false, 1, 7);
        passTo(z, 7);
        Checks.due(0, z.station(0, 5));
        Checks.due(180, z.byteAt(0));
        Checks.due(1, z.byteAt(2));
    }

    private static void stops() {
        // A disturbance where it sends a 0 does nothing: the first bit, and those of the byte 0 that follow the control.
        TowerHouse x = Houses.four();
        x.send(0, 0, 1, false, 1, 0);
        x.disturb(1);
        for (int k = 14; k < 24; k++) {
            x.disturb(k);
        }
        x.pass(5);
        Checks.due(1, x.heard(1));
        Checks.due(0, x.station(0, 5));
        // The first 1 of all: control 176 has its lowest 1 as bit 4, in bit time 6.
        int[] ones = {6, 11, 12, 13, 24, 25, 26, 102};
        for (int at : ones) {
            TowerHouse y = Houses.four();
            y.send(0, 0, 1, false, 1, 0);
            y.disturb(at);
            passTo(y, (at + 29) / 30);
            Checks.row(Checks.of(1, 0, 0, 0, 0, 1), Facts.station(y, 0));
            // That was no saying: it is said as for the first time.
            passTo(y, 9);
            Checks.due(176, y.byteAt(0));
            Checks.due(1, y.heard(1));
        }
        // Behind its last bit nothing stops it any more.
        TowerHouse z = Houses.four();
        z.send(0, 0, 1, false, 1, 0);
        z.disturb(103);
        z.pass(4);
        Checks.due(0, z.station(0, 5));
        Checks.due(1, z.station(0, 2));
    }

    private static void waits() {
        // T is d + 152, so it waits up to d + 180.
        TowerHouse x = idleSince(60);
        x.send(0, 0, 1, false, 1, 0);
        passTo(x, 7);
        Checks.row(Checks.of(1, 1, 0, 0, 0, 0), Facts.station(x, 0));
        passTo(x, 8);
        Checks.row(Checks.of(0, 0, 0, 1, 0, 0), Facts.station(x, 0));
        TowerHouse y = idleSince(31);
        y.send(0, 0, 1, false, 1, 0);
        passTo(y, 7);
        Checks.row(Checks.of(1, 0, 1, 0, 0, 0), Facts.station(y, 0));
        passTo(y, 8);
        Checks.row(Checks.of(0, 0, 0, 1, 0, 0), Facts.station(y, 0));
        // While it waits it says nothing, even if it has more; and it does not answer.
        TowerHouse z = Houses.four();
        z.send(0, 0, 0, false, 1, 0);
        z.send(0, 0, 1, false, 1, 0);
        z.pass(5);
        Checks.due(-1, z.byteAt(-1));
        Checks.due(2, z.station(0, 0));
    }

    private static void lost() {
        TowerHouse x = Houses.four();
        x.send(0, 1, 99, false, 1, 0);
        x.send(0, 1, 1, false, 1, 1);
        int[] controls = {180, 148, 148, 148};
        int seconds = 0;
        for (int times = 1; times <= 4; times++) {
            while (x.heard(0) < times) {
                x.pass(1);
                seconds++;
                Checks.due(true, seconds < 60);
                Checks.due(0, x.station(0, 4));
            }
            Checks.due(controls[times - 1], x.byteAt(0));
        }
        x.pass(1);
        Checks.row(Checks.of(1, 0, 0, 0, 1, 0), Facts.station(x, 0));
        x.pass(8);
        Checks.row(Checks.of(0, 0, 0, 1, 1, 0), Facts.station(x, 0));
        Checks.due(180, x.byteAt(0));
        Checks.due(5, x.heard(0));
        // Taken at the fourth time it is SAID.
        TowerHouse y = Houses.four();
        y.send(0, 0, 99, false, 1, 0);
        while (y.heard(0) < 3) {
            y.pass(1);
        }
        y.pass(1);
        y.address(5, 99);
        while (y.heard(0) < 4) {
            y.pass(1);
        }
        y.pass(2);
        Checks.row(Checks.of(0, 0, 0, 1, 0, 0), Facts.station(y, 0));
    }

    private static void stationNumbers() {
        TowerHouse x = Houses.four();
        int[] noWhat = {-1, 6, LEAST, GREATEST};
        for (int v : noWhat) {
            Checks.argument(() -> x.station(0, v));
        }
        for (int v : NO_STATION) {
            Checks.argument(() -> x.station(v, 0));
        }
        for (int k = 0; k < 8; k++) {
            Checks.row(Checks.of(0, 0, 0, 0, 0, 0), Facts.station(x, k));
        }
        x.send(7, 0, 1, false, 1, 0);
        Checks.row(Checks.of(1, 0, 0, 0, 0, 0), Facts.station(x, 7));
        Checks.row(Checks.of(0, 0, 0, 0, 0, 0), Facts.station(x, 6));
    }
}
