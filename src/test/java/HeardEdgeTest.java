/** The edges that promises 23 and 24 name of hearing and answering; what is heard is made of disturbances where need be. */
final class HeardEdgeTest {
    private static final int LEAST = Integer.MIN_VALUE;
    private static final int GREATEST = Integer.MAX_VALUE;

    private HeardEdgeTest() {
    }

    static void all() {
        Checks.test("P24 edge: a character 'is BAD if its parity is wrong or its last bit is 0'", HeardEdgeTest::badCharacters);
        Checks.test("P24 edge: 'if a third 1 follows', 'COMPLETE behind this bit'", HeardEdgeTest::complete);
        Checks.test("P24 edge: 'if just two 1 follow, and then a 0', 'or a 0 before two 1'", HeardEdgeTest::betweenCharacters);
        Checks.test("P24 edge: a TELEGRAM 'has 8 characters or more, and none is bad'", HeardEdgeTest::eightCharacters);
        Checks.test("P24 edge: RIGHT 'if its check is, and it has as many bytes as its sixth one says'", HeardEdgeTest::right);
        Checks.test("P24 edge: an ANSWER 'begins in bit time T + 14', 'with one character that is not bad'", HeardEdgeTest::answers);
        Checks.test("P24 edge: '204' of whomever it is, its telegram is SAID", HeardEdgeTest::anyAnswer);
        Checks.test("P24 edge: 'It is 12 if the telegram is not right; else 192 if the station is busy, else 204'", HeardEdgeTest::answersSaid);
        Checks.test("P24 edge: 'but none that waits, or is saying something'", HeardEdgeTest::waitingStations);
        Checks.test("P24 edge: 'those whose address is its aim', 'those that listen to the group'", HeardEdgeTest::meantFor);
        Checks.test("P24 edge: '(none does to one above 255)'", HeardEdgeTest::greatGroups);
        Checks.test("P24 edge: '(if no other thing was complete since)'", HeardEdgeTest::otherThings);
        Checks.test("P24 edge: 'with a group 4 .. 9 as its aim'", HeardEdgeTest::programPoints);
        Checks.test("P24 edge: heard, byteAt, 'byte -1 (which is always one)'", HeardEdgeTest::wrongNumbers);
    }

    /** The bits that the line is to have by disturbances alone, from a bit time on; all others are 1. */
    private static final class Row {
        private final boolean[] isZero = new boolean[6000];
        private int at;

        /** A character, and what is between it and the next one. */
        void say(int v) {
            saySo(v, Integer.bitCount(v) & 1, 1);
            at += 2;
        }

        void saySo(int v, int parity, int last) {
            isZero[at] = true;
            for (int k = 0; k < 8; k++) {
                isZero[at + 1 + k] = (v >> k & 1) == 0;
            }
            isZero[at + 9] = parity == 0;
            isZero[at + 10] = last == 0;
            at += 11;
        }

        void zero() {
            isZero[at] = true;
            at++;
        }

        void skip(int bits) {
            at += bits;
        }

        /** Says it, from the next bit time on, and 30 bit times more. */
        void on(TowerHouse x) {
            for (int from = 0; from < at + 30; from += 30) {
                for (int k = 0; k < 30; k++) {
                    if (isZero[from + k]) {
                        x.disturb(k + 1);
                    }
                }
                x.pass(1);
            }
        }
    }

    private static Row row(int... bytes) {
        Row r = new Row();
        for (int v : bytes) {
            r.say(v);
        }
        return r;
    }

    /** With the check behind them. */
    private static int[] checked(int... bytes) {
        int[] all = java.util.Arrays.copyOf(bytes, bytes.length + 1);
        int check = 255;
        for (int v : bytes) {
            check = check ^ v;
        }
        all[bytes.length] = check;
        return all;
    }

    private static void heard(Row r, int telegrams, int right, int noise, int good, int others) {
        TowerHouse x = Houses.four();
        r.on(x);
        Checks.row(Checks.of(telegrams, right, noise, good, others), counts(x));
    }

    private static long[] counts(TowerHouse x) {
        return Checks.of(x.heard(0), x.heard(1), x.heard(2), x.heard(3), x.heard(4));
    }

    private static void badCharacters() {
        int[] bytes = checked(176, 0, 99, 0, 98, 0, 7);
        heard(row(bytes), 1, 1, 0, 0, 0);
        for (int bad = 0; bad < 8; bad++) {
            for (int kind = 0; kind < 3; kind++) {
                Row r = new Row();
                for (int k = 0; k < 8; k++) {
                    int parity = Integer.bitCount(bytes[k]) & 1;
                    r.saySo(bytes[k], k == bad && kind != 1 ? 1 - parity : parity, k == bad && kind != 0 ? 0 : 1);
                    r.skip(2);
                }
                heard(r, 0, 0, 1, 0, 0);
            }
        }
    }

    private static void complete() {
        // The last character's last bit, T, is in bit time 102, the third 1 in 105; shifted by 15 it is complete in 120.
        for (int shift = 15; shift < 17; shift++) {
            TowerHouse x = Houses.four();
            Row r = new Row();
            r.skip(shift);
            for (int v : checked(176, 0, 99, 0, 98, 0, 7)) {
                r.say(v);
            }
            r.at = 90;
            r.on(x);
            Checks.due(120, 30 * x.told(8));
            Checks.due(16 - shift, x.heard(0));
            if (shift == 16) {
                Checks.argument(() -> x.byteAt(0));
            }
            x.pass(1);
            Checks.due(1, x.heard(0));
            Checks.due(176, x.byteAt(0));
        }
    }

    private static void betweenCharacters() {
        // Two good characters with so many 1 between them: one thing with two, two things with others.
        int[] things = {2, 2, 1, 2, 2};
        for (int gap = 0; gap < 5; gap++) {
            Row r = new Row();
            r.saySo(255, 0, 1);
            r.skip(gap);
            r.saySo(255, 0, 1);
            heard(r, 0, 0, things[gap], 0, 0);
        }
        // A telegram of 8 characters, cut at one place.
        int[] bytes = checked(176, 0, 99, 0, 98, 0, 7);
        for (int cut = 1; cut < 8; cut++) {
            for (int gap = 1; gap < 4; gap++) {
                Row r = new Row();
                for (int k = 0; k < 8; k++) {
                    if (k > 0) {
                        r.skip(k == cut ? gap : 2);
                    }
                    r.saySo(bytes[k], Integer.bitCount(bytes[k]) & 1, 1);
                }
                heard(r, gap == 2 ? 1 : 0, gap == 2 ? 1 : 0, gap == 2 ? 0 : 2, 0, 0);
            }
        }
        // A 0 right behind a telegram completes it, and the next thing begins with it.
        Row r = row(bytes);
        r.at -= 1;
        r.saySo(255, 0, 1);
        heard(r, 1, 1, 1, 0, 0);
    }

    private static void eightCharacters() {
        heard(row(176, 0, 99, 0, 98, 0, 7), 0, 0, 1, 0, 0);
        heard(row(176, 0, 99, 0, 98, 0, 7, 0), 1, 0, 0, 0, 0);
        heard(row(checked(176, 0, 99, 0, 98, 0)), 0, 0, 1, 0, 0);
        heard(row(255), 0, 0, 1, 0, 0);
        int[] many = new int[40];
        java.util.Arrays.fill(many, 255);
        heard(row(many), 1, 0, 0, 0, 0);
    }

    private static void right() {
        // With 1 to 14 bytes of data, and with more than could be sent.
        for (int n = 1; n < 17; n++) {
            int[] bytes = new int[6 + n];
            java.util.Arrays.fill(bytes, 255);
            bytes[5] = n - 1;
            heard(row(checked(bytes)), 1, 1, 0, 0, 0);
            bytes[5] = 128 + n - 1;
            heard(row(checked(bytes)), 1, 1, 0, 0, 0);
            // One less or more than it says.
            bytes[5] = n;
            heard(row(checked(bytes)), 1, 0, 0, 0, 0);
            if (n > 1) {
                bytes[5] = n - 2;
                heard(row(checked(bytes)), 1, 0, 0, 0, 0);
            }
        }
        // As many as it can say: 127 with an address, 255 with a group; both of group (or address) 4.
        for (int sixth = 127; sixth < 256; sixth += 128) {
            int[] bytes = new int[134];
            java.util.Arrays.fill(bytes, 255);
            bytes[3] = 0;
            bytes[4] = 4;
            bytes[5] = sixth;
            TowerHouse x = Houses.one(1, 1);
            row(checked(bytes)).on(x);
            Checks.row(Checks.of(1, 1, 0), Checks.of(x.heard(0), x.heard(1), x.heard(2)));
            Checks.due(sixth == 255 ? 255 : 0, x.pointAt(4));
            Checks.due(sixth == 127 ? 204 : -1, x.byteAt(-1));
        }
        // A check that is wrong by one bit; a byte that is.
        for (int bit = 0; bit < 8; bit++) {
            int[] bytes = checked(176, 0, 99, 0, 98, 0, 7);
            bytes[7] = bytes[7] ^ 1 << bit;
            heard(row(bytes), 1, 0, 0, 0, 0);
            int[] other = checked(176, 0, 99, 0, 98, 0, 7);
            other[6] = other[6] ^ 1 << bit;
            heard(row(other), 1, 0, 0, 0, 0);
        }
    }

    /** A telegram to nobody, then a character that begins so many bit times behind T. */
    private static Row answered(int behind, int v) {
        Row r = row(checked(176, 0, 99, 0, 98, 0, 7));
        r.skip(behind - 3);
        r.saySo(v, Integer.bitCount(v) & 1, 1);
        return r;
    }

    private static void answers() {
        heard(answered(14, 204), 1, 1, 0, 1, 0);
        heard(answered(14, 203), 1, 1, 0, 0, 1);
        heard(answered(14, 255), 1, 1, 0, 0, 1);
        heard(answered(14, 0), 1, 1, 0, 0, 1);
        heard(answered(13, 204), 1, 1, 1, 0, 0);
        heard(answered(15, 204), 1, 1, 1, 0, 0);
        // Not good, or not alone.
        Row bad = row(checked(176, 0, 99, 0, 98, 0, 7));
        bad.skip(11);
        bad.saySo(204, 1, 1);
        heard(bad, 1, 1, 1, 0, 0);
        Row cut = row(checked(176, 0, 99, 0, 98, 0, 7));
        cut.skip(11);
        cut.saySo(204, 0, 0);
        heard(cut, 1, 1, 1, 0, 0);
        Row two = answered(14, 204);
        two.skip(2);
        two.saySo(204, 0, 1);
        heard(two, 1, 1, 1, 0, 0);
        // Behind it a 0 before two 1: it is complete, and an answer.
        Row near = answered(14, 204);
        near.skip(1);
        near.saySo(255, 0, 1);
        heard(near, 1, 1, 1, 1, 0);
        // What begins earlier is none, also if its second character is where the answer would be.
        Row early = row(checked(176, 0, 99, 0, 98, 0, 7));
        early.at -= 2;
        early.saySo(255, 0, 1);
        early.skip(2);
        early.saySo(204, 0, 1);
        heard(early, 1, 1, 1, 0, 0);
        TowerHouse x = Houses.four();
        Row meant = row(checked(176, 0, 99, 0, 1, 0, 7));
        meant.at -= 2;
        meant.saySo(255, 0, 1);
        meant.on(x);
        Checks.row(Checks.of(1, 1, 1, 0, 0), counts(x));
        Checks.due(-1, x.byteAt(-1));
        // One that is not right has an answer, too; a second one has none.
        Row wrong = row(176, 0, 99, 0, 98, 0, 7, 0);
        wrong.skip(11);
        wrong.saySo(204, 0, 1);
        heard(wrong, 1, 0, 0, 1, 0);
        Row again = answered(14, 204);
        again.skip(14);
        again.saySo(204, 0, 1);
        heard(again, 1, 1, 1, 1, 0);
        // Without a telegram before it is noise, in bit time 14 as well.
        Row none = new Row();
        none.skip(13);
        none.saySo(204, 0, 1);
        heard(none, 0, 0, 1, 0, 0);
        Row late = new Row();
        late.skip(1013);
        late.saySo(204, 0, 1);
        heard(late, 0, 0, 1, 0, 0);
    }

    private static void anyAnswer() {
        // Nobody is at address 99; the line is disturbed so that it says 204 in T + 14 .. T + 24: T is 102.
        int[] zeros = {116, 117, 118, 121, 122, 125};
        for (int less = 0; less < 2; less++) {
            TowerHouse x = Houses.four();
            x.send(0, 0, 99, false, 1, 7);
            for (int k = 0; k < zeros.length; k++) {
                x.disturb(zeros[k] + less);
            }
            x.pass(4);
            Checks.due(1, x.station(0, 2));
            x.pass(1);
            Checks.due(less == 0 ? 204 : -1, x.byteAt(-1));
            Checks.due(1 - less, x.station(0, 3));
            Checks.due(less, x.station(0, 0));
            Checks.due(0, x.station(0, 2));
        }
    }

    /** Sends to station 1 (or to this aim) a telegram of which the check is cut off: not right, but a telegram. */
    private static TowerHouse cutOff(int sender, int aim, int v) {
        TowerHouse x = Houses.four();
        int check = 255 ^ 176 ^ sender ^ aim ^ v;
        // Its highest bit is 1, and it has an even number of ones: without that bit the parity that follows, 1, is good.
        Checks.due(true, check >= 128 && Integer.bitCount(check) % 2 == 0);
        x.send(sender, 0, aim, false, 1, v);
        x.disturb(100);
        return x;
    }

    private static void answersSaid() {
        TowerHouse x = cutOff(0, 1, 129);
        x.busy(1, true);
        x.pass(5);
        Checks.row(Checks.of(1, 0, 0, 0, 1), counts(x));
        Checks.due(12, x.byteAt(-1));
        Checks.due(1, x.station(0, 5));
        Checks.due(0, x.station(0, 2));
        Checks.due(1, x.station(0, 0));
        x.pass(6);
        // It was no saying: the same again, and this time it is right and the station busy.
        Checks.due(176, x.byteAt(0));
        Checks.row(Checks.of(2, 1, 0, 0, 2), counts(x));
        Checks.due(192, x.byteAt(-1));
        Checks.due(1, x.station(0, 0));
        x.busy(1, false);
        x.pass(6);
        Checks.due(144, x.byteAt(0));
        Checks.due(204, x.byteAt(-1));
        Checks.row(Checks.of(3, 2, 0, 1, 2), counts(x));
        Checks.due(1, x.station(0, 3));
        Checks.due(0, x.station(0, 0));
    }

    private static void waitingStations() {
        // It stopped, so it does not wait, and answers itself.
        TowerHouse x = cutOff(0, 0, 128);
        x.pass(5);
        Checks.due(12, x.byteAt(-1));
        Checks.due(1, x.heard(4));
        // It was said wholly, so it waits, and nobody else is there.
        TowerHouse y = Houses.four();
        y.send(0, 0, 0, false, 1, 128);
        y.pass(5);
        Checks.due(-1, y.byteAt(-1));
        Checks.due(0, y.heard(4));
        // Another one with this address answers.
        TowerHouse z = Houses.four();
        z.address(4, 0);
        z.send(0, 0, 0, false, 1, 128);
        z.pass(5);
        Checks.due(204, z.byteAt(-1));
        // Two that say the same both wait, so a third one is needed for the answer.
        TowerHouse w = Houses.four();
        w.address(1, 0);
        w.send(0, 0, 0, false, 1, 128);
        w.send(1, 0, 0, false, 1, 128);
        w.pass(5);
        Checks.due(-1, w.byteAt(-1));
        Checks.due(1, w.heard(0));
    }

    private static void meantFor() {
        // To address 5 not those that listen to group 5; to group 5 not the station of this address.
        TowerHouse x = Houses.four();
        x.listen(3, 5, true);
        x.address(5, 6);
        x.send(0, 0, 5, false, 1, 1);
        x.pass(5);
        Checks.due(-1, x.byteAt(-1));
        TowerHouse y = Houses.four();
        y.send(0, 0, 5, true, 1, 1);
        y.pass(5);
        Checks.due(-1, y.byteAt(-1));
        // The least and the greatest group and address.
        int[] groups = {0, 255};
        for (int g : groups) {
            TowerHouse z = Houses.four();
            z.listen(7, g, true);
            z.send(0, 0, g, true, 1, 1);
            z.pass(5);
            Checks.due(204, z.byteAt(-1));
        }
        int[] addresses = {0, 255, 256, 65535};
        for (int a : addresses) {
            TowerHouse z = Houses.four();
            z.address(0, 1000);
            z.address(7, a);
            z.send(0, 0, a, false, 1, 1);
            z.pass(5);
            Checks.due(204, z.byteAt(-1));
            Checks.due(a / 256, z.byteAt(3));
            Checks.due(a % 256, z.byteAt(4));
        }
        // As it is in bit time T + 14 = 116, in second 4: before it, and behind it.
        TowerHouse early = Houses.four();
        early.send(0, 0, 77, false, 1, 1);
        early.pass(3);
        early.address(5, 77);
        early.busy(5, true);
        early.pass(2);
        Checks.due(192, early.byteAt(-1));
        TowerHouse late = Houses.four();
        late.send(0, 0, 77, false, 1, 1);
        late.pass(4);
        late.address(5, 77);
        late.pass(1);
        Checks.due(-1, late.byteAt(-1));
    }

    private static void greatGroups() {
        // Made of disturbances alone: group 65535, then 256, then 255; station 2 listens to 0 and 255.
        int[][] aims = {{255, 255}, {1, 0}, {0, 255}, {0, 0}};
        for (int k = 0; k < 4; k++) {
            TowerHouse x = Houses.four();
            x.listen(2, 255, true);
            x.listen(2, 0, true);
            row(checked(255, 255, 255, aims[k][0], aims[k][1], 128, 255)).on(x);
            Checks.due(1, x.heard(1));
            Checks.due(k < 2 ? -1 : 204, x.byteAt(-1));
            Checks.due(k < 2 ? 0 : 1, x.heard(3));
        }
    }

    private static void otherThings() {
        // Something else is complete between T and T + 14: it begins with a 0 in T + 1, and ends with a 0 in T + 12.
        int[] bytes = checked(176, 0, 99, 0, 5, 0, 7);
        TowerHouse x = Houses.four();
        Row r = row(bytes);
        r.at -= 2;
        r.saySo(255, 0, 1);
        r.zero();
        r.on(x);
        Checks.due(1, x.heard(1));
        Checks.due(-1, x.byteAt(-1));
        Checks.due(2, x.heard(2));
        // It begins in T + 2, and is not complete before T + 14: station 5 answers, and as its 0 is the one before two 1,
        // that completes the other thing, and the answer begins there.
        TowerHouse y = Houses.four();
        Row s = row(bytes);
        s.at -= 1;
        s.saySo(255, 0, 1);
        s.on(y);
        Checks.due(1, y.heard(1));
        Checks.due(1, y.heard(2));
        Checks.due(1, y.heard(3));
        Checks.due(204, y.byteAt(-1));
        // It begins in T + 3: that is the next character of the telegram, which is not complete then.
        TowerHouse z = Houses.four();
        Row t = row(bytes);
        t.saySo(255, 0, 1);
        t.on(z);
        Checks.due(1, z.heard(0));
        Checks.due(0, z.heard(1));
        Checks.due(12, z.byteAt(-1));
        Checks.due(255, z.byteAt(8));
    }

    private static void programPoints() {
        for (int group = 0; group < 12; group++) {
            TowerHouse x = Houses.four();
            x.send(0, 0, group, true, 2, 255);
            x.pass(4);
            Checks.due(1, x.heard(1));
            for (int p = 0; p < 10; p++) {
                Checks.due(p == group && group >= 4 ? 255 : 0, x.pointAt(p));
            }
            // To an address of this number it is none.
            TowerHouse y = Houses.four();
            y.send(0, 0, group, false, 1, 255);
            y.pass(4);
            for (int p = 0; p < 10; p++) {
                Checks.due(0, y.pointAt(p));
            }
        }
        // When it is complete, in T + 3: not before, and not only if it is answered. T is 102.
        TowerHouse x = Houses.four();
        x.point(4, -1);
        x.send(0, 0, 4, true, 1, 0);
        x.pass(3);
        Checks.due(-1, x.pointAt(4));
        x.pass(1);
        Checks.due(0, x.pointAt(4));
        x.point(4, -1);
        // Said again it sets it again.
        x.pass(6);
        Checks.due(0, x.pointAt(4));
        // One that is not right sets nothing; nor does one to group 4 + 256.
        int[][] rows = {{255, 255, 255, 0, 4, 128, 255, 0}, checked(255, 255, 255, 0, 4, 129, 255), checked(255, 255, 255, 1, 4, 128, 255),
            checked(255, 255, 255, 0, 4, 128, 255)};
        for (int k = 0; k < 4; k++) {
            TowerHouse y = Houses.four();
            row(rows[k]).on(y);
            Checks.due(1, y.heard(0));
            Checks.due(k == 3 ? 255 : 0, y.pointAt(4));
        }
    }

    private static void wrongNumbers() {
        TowerHouse x = Houses.four();
        int[] noWhat = {-1, 5, LEAST, GREATEST};
        for (int v : noWhat) {
            Checks.argument(() -> x.heard(v));
        }
        int[] noByte = {-2, 0, 1, LEAST, GREATEST};
        for (int v : noByte) {
            Checks.argument(() -> x.byteAt(v));
        }
        Checks.due(-1, x.byteAt(-1));
        // Noise is no telegram, so it has no bytes.
        x.disturb(1);
        x.pass(1);
        Checks.due(1, x.heard(2));
        Checks.argument(() -> x.byteAt(0));
        for (int n = 1; n < 15; n += 13) {
            TowerHouse y = Houses.four();
            y.send(0, 0, 1, false, n, 9);
            y.pass(12);
            int last = 6 + n;
            Checks.due(176, y.byteAt(0));
            Checks.due(9, y.byteAt(6));
            y.byteAt(last);
            Checks.argument(() -> y.byteAt(last + 1));
            Checks.argument(() -> y.byteAt(-2));
            Checks.due(204, y.byteAt(-1));
        }
        // The latest one's bytes, also if it is shorter than the one before; and no answer yet.
        TowerHouse z = Houses.four();
        z.send(0, 0, 1, false, 14, 9);
        z.send(0, 0, 99, false, 1, 8);
        z.pass(12);
        Checks.due(204, z.byteAt(-1));
        Checks.due(22, z.byteAt(19));
        z.pass(6);
        Checks.due(8, z.byteAt(6));
        Checks.due(-1, z.byteAt(-1));
        Checks.argument(() -> z.byteAt(8));
    }
}
