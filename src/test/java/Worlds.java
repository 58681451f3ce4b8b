/** Objects that several tests begin with. */
final class Worlds {
    static final int EVERY_DAY = 127;

    private Worlds() {
    }

    static TransitRows withPlaces(int many) {
        TransitRows rows = new TransitRows();
        for (int i = 0; i < many; i++) {
            rows.place();
        }
        return rows;
    }

    /** Places 0 and 1, route 0 from 0 to 1 on every day, and copies 1 .. many that stand at 0. */
    static TransitRows withRoute(int duration, int room, int many) {
        TransitRows rows = withPlaces(2);
        rows.route(0, 1, EVERY_DAY, duration, room);
        addCopies(rows, 0, many);
        return rows;
    }

    static void addCopies(TransitRows rows, int home, int many) {
        for (int i = 0; i < many; i++) {
            rows.copy(home);
        }
    }
}
