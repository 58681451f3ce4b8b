/** Promises 2 and 3. */
public final class PlacesTest {
    private static final Check CHECK = new Check();

    public static void main(String[] args) {
        twelvePlaces();
        openAndClosed();
        CHECK.end();
    }

    private static void twelvePlaces() {
        TransitRows rows = new TransitRows();
        for (int i = 0; i < 12; i++) {
            CHECK.due("place()", rows.place(), i);
        }
        CHECK.due("the 13th place()", rows.place(), TransitRows.NONE);
        CHECK.due("the 14th place()", rows.place(), TransitRows.NONE);
        CHECK.due("open(11, true)", rows.open(11, true), true);
        CHECK.due("open(12, true)", rows.open(12, true), false);
    }

    private static void openAndClosed() {
        TransitRows rows = Worlds.withPlaces(3);
        for (int i = 0; i < 3; i++) {
            CHECK.due("open at first", rows.open(i, true), true);
        }
        CHECK.due("open(1, false) of an open one", rows.open(1, false), true);
        CHECK.due("open(1, false) of a closed one", rows.open(1, false), false);
        CHECK.due("open(0, true): another place", rows.open(0, true), true);
        CHECK.due("open(1, true) of a closed one", rows.open(1, true), false);
        CHECK.due("open(1, true) of an open one", rows.open(1, true), true);
        CHECK.due("open(3, true): none such", rows.open(3, true), false);
        CHECK.due("open(3, true) again", rows.open(3, true), false);
        CHECK.due("open(-1, true)", rows.open(-1, true), false);
        CHECK.due("open(max, true)", rows.open(Integer.MAX_VALUE, true), false);
        CHECK.due("open(min, true)", rows.open(Integer.MIN_VALUE, true), false);
    }
}
