/** Houses that many tests begin with, and texts as numbers. */
final class Houses {
    private Houses() {
    }

    /** Four rooms of 4 by 4 (0 below 1, 2 below 3, 0 to the left of 2), with six doors; planned, not yet found. */
    static TowerHouse fourPlanned() {
        TowerHouse x = new TowerHouse();
        x.line(0, 0, 8, 0);
        x.line(0, 4, 8, 4);
        x.line(0, 8, 8, 8);
        x.line(0, 0, 0, 8);
        x.line(4, 0, 4, 8);
        x.line(8, 0, 8, 8);
        x.door(4, 1, 3, 1);
        x.door(4, 5, 6, 2);
        x.door(1, 1, 2, 1);
        x.door(1, 5, 7, 1);
        x.door(0, 1, 2, 1);
        x.door(5, 6, 7, 2);
        return x;
    }

    /** The same one, built: zones are 1, 2, 3, 4; portals 0 (0 - 4), 1 (1 - 0), 2 (3 - 2), 3 (0 - 2), 4 (1 - 3), 5 (3 - 4). */
    static TowerHouse four() {
        TowerHouse x = fourPlanned();
        x.find();
        x.name(0, 11);
        x.name(1, 2);
        x.name(2, 3);
        x.name(3, 14);
        x.build(0);
        return x;
    }

    /** One room from (2, 2) to (2 + width, 2 + height), built, with a door of rate 1 at the low end of its lower line. */
    static TowerHouse one(int width, int height) {
        TowerHouse x = new TowerHouse();
        x.line(2, 2, 2 + width, 2);
        x.line(2, 2 + height, 2 + width, 2 + height);
        x.line(2, 2, 2, 2 + height);
        x.line(2 + width, 2, 2 + width, 2 + height);
        x.door(0, 0, 1, 1);
        x.find();
        x.build(0);
        return x;
    }

    /** A name of letters as a number, or up to eight characters for say(). */
    static long word(String letters) {
        long word = 0;
        for (int k = 0; k < letters.length(); k++) {
            word = word << 8 | letters.charAt(k);
        }
        return word;
    }

    static void say(TowerHouse x, String text) {
        for (int k = 0; k < text.length(); k += 8) {
            x.say(word(text.substring(k, Math.min(text.length(), k + 8))));
        }
    }

    /** What rules() answers for a text. */
    static int rules(TowerHouse x, String text) {
        x.trim(x.say(0));
        say(x, text);
        return x.rules();
    }

    static void write(TowerHouse x, String text) {
        for (int k = 0; k < text.length(); k++) {
            x.unit(text.charAt(k));
        }
    }

    /** What matrix() answers for a text in this house. */
    static int matrix(TowerHouse x, String text) {
        if (!text.isEmpty()) {
            x.cutText(x.unit(32));
            write(x, text);
        } else {
            x.cutText(x.unit(32));
        }
        return x.matrix();
    }

    /** Persons leave from the next second on, in a house of so many rooms: by its first switch. */
    static void leave(TowerHouse x, int rooms) {
        x.sentence(0, 0, 1, rooms, 1);
        x.sentence(1, 0, 4, 0, 0);
        x.sentence(2, 0, 0, 0, 0);
        x.matrix();
        x.signal(rooms, 100);
    }

    static void pass(TowerHouse x, int seconds) {
        while (seconds > 0) {
            int n = Math.min(60, seconds);
            x.pass(n);
            seconds -= n;
        }
    }
}
