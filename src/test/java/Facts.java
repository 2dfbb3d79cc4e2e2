/** What a call tells of one thing, as a row: all that can be asked of it. */
final class Facts {
    private Facts() {
    }

    static long[] portal(TowerHouse x, int portal) {
        long[] all = new long[6];
        for (int what = 0; what < 6; what++) {
            all[what] = x.portal(portal, what);
        }
        return all;
    }

    static long[] where(TowerHouse x, int person) {
        long[] all = new long[6];
        for (int what = 0; what < 6; what++) {
            all[what] = x.where(person, what);
        }
        return all;
    }

    static long[] against(TowerHouse x, int k) {
        return Checks.of(x.against(k, 1), x.against(k, 2), x.against(k, 3), x.against(k, 4));
    }

    static long[] zone(TowerHouse x, int zone) {
        return Checks.of(x.zone(zone, 0), x.zone(zone, 1), x.zone(zone, 2), x.zone(zone, 3));
    }

    static long[] event(TowerHouse x, int k) {
        return Checks.of(x.event(k, 0), x.event(k, 1), x.event(k, 2));
    }

    static long[] station(TowerHouse x, int station) {
        long[] all = new long[6];
        for (int what = 0; what < 6; what++) {
            all[what] = x.station(station, what);
        }
        return all;
    }

    static long[] given(TowerHouse x, int call) {
        return Checks.of(x.given(call, 0), x.given(call, 1), x.given(call, 2), x.given(call, 3));
    }
}
