/** Objects that several tests begin with. */
final class Worlds {
    static final int EVERY_DAY = 127;

    /** The slips of withEveryState, whose copies have the same numbers. */
    static final int WAITING = 1;
    static final int LOADED = 2;
    static final int ARRIVED = 3;
    static final int LOST = 4;
    static final int WRONG = 5;
    static final int BACK = 6;

    private Worlds() {
    }

    static TransitRows withPlaces(int many) {
        TransitRows rows = new TransitRows();
        for (int i = 0; i < many; i++) {
            rows.place();
        }
        return rows;
    }

    /** Places 0 and 1, route 0 from 0 to 1 on every day, and copies 1 .. many that stand at 0. */
    static TransitRows withRoute(int duration, int room, int many) {
        TransitRows rows = withPlaces(2);
        rows.route(0, 1, EVERY_DAY, duration, room);
        addCopies(rows, 0, many);
        return rows;
    }

    /** As withRoute, of no duration, and each copy has a slip with its own number that is to go on day 1. */
    static TransitRows withWaiting(int room, int many) {
        TransitRows rows = withRoute(0, room, many);
        for (int copy = 1; copy <= many; copy++) {
            rows.send(copy, 1, 0);
        }
        return rows;
    }

    /** Places 0 and 1, and route 0 from 0 to 1 on the days of a mask, without a copy. */
    static TransitRows withMask(int mask) {
        TransitRows rows = withPlaces(2);
        rows.route(0, 1, mask, 0, 9);
        return rows;
    }

    /**
     * A slip in each state, from 0 to 1 of three places, by the one route, that takes a day. WAITING is to go on day
     * 100, LOADED was loaded on day 50 in load 2, and LOST, ARRIVED and WRONG on day 1 in load 1; ARRIVED and WRONG
     * (to place 2) came on day 2. Copy 7 has no slip and stands at place 0.
     */
    static TransitRows withEveryState() {
        TransitRows rows = withPlaces(3);
        rows.route(0, 1, EVERY_DAY, 1, 9);
        addCopies(rows, 0, 7);
        rows.send(WAITING, 1, 99);
        rows.send(LOADED, 1, 49);
        rows.send(ARRIVED, 1, 0);
        rows.send(LOST, 1, 0);
        rows.send(WRONG, 1, 0);
        rows.send(BACK, 1, 0);
        rows.back(BACK);
        rows.load(0, 1);
        rows.arrive(ARRIVED, 1, 2);
        rows.arrive(WRONG, 2, 2);
        rows.lost(17);
        rows.load(0, 50);
        return rows;
    }

    /**
     * As withEveryState, and more: place 3, that is closed; days left out, also that on which slips 1 and 8 are to go;
     * slip 8 in the bin from 0 to 1, of copy 9, that is PRIORITY and FLOATS; slips 7 and 9 from 0 to 3, both TOLD as 1
     * in load 3, then 7 LOADED in load 4 and 9 TOLD as 2.
     */
    static TransitRows busy() {
        TransitRows rows = withEveryState();
        rows.place();
        rows.route(0, 1, 1 << 3, 0, 1);
        rows.route(1, 2, EVERY_DAY, 2, 1);
        rows.route(0, 3, EVERY_DAY, 0, 1);
        addCopies(rows, 0, 3);
        rows.priority(9, true);
        rows.floats(9, true);
        rows.skip(0, 101, true);
        rows.skip(1, 108, true);
        rows.send(8, 3, 99);
        rows.send(9, 1, 100);
        rows.send(10, 3, 99);
        rows.skip(0, 100, true);
        rows.open(3, false);
        rows.load(3, 100);
        rows.open(3, true);
        rows.load(3, 101);
        rows.open(3, false);
        return rows;
    }

    static void addCopies(TransitRows rows, int home, int many) {
        for (int i = 0; i < many; i++) {
            rows.copy(home);
        }
    }

    /** Slips by the one route of withRoute, all of copy 1 and all BACK. */
    static void addSlips(TransitRows rows, int many) {
        for (int i = 0; i < many; i++) {
            rows.back(rows.send(1, 1, 0));
        }
    }
}
