/** Promise 2, and of the terms: PLACES. */
public final class PlaceTest {
    private static final Check CHECK = new Check();

    public static void main(String[] args) {
        asTheyCome();
        noneIfThereAreTwelve();
        closedOnesCount();
        CHECK.end();
    }

    /** "PLACES are 0 .. 11, as they come" */
    private static void asTheyCome() {
        TransitRows rows = new TransitRows();
        for (int i = 0; i < 12; i++) {
            CHECK.due("open of one that is to come", rows.open(i, true), false);
            CHECK.due("place()", rows.place(), i);
            CHECK.due("open of one that came", rows.open(i, true), true);
        }
    }

    /** "NONE if there are 12" */
    private static void noneIfThereAreTwelve() {
        TransitRows rows = Worlds.withPlaces(11);
        CHECK.due("the 12th", rows.place(), 11);
        CHECK.due("the 13th", rows.place(), TransitRows.NONE);
        CHECK.due("the 14th", rows.place(), TransitRows.NONE);
        CHECK.due("there is no 13th", rows.open(12, true), false);
        CHECK.due("the 12th is there still", rows.open(11, true), true);
        CHECK.due("the first is there still", rows.open(0, true), true);
    }

    private static void closedOnesCount() {
        TransitRows rows = Worlds.withPlaces(12);
        rows.open(11, false);
        CHECK.due("the 13th, one is closed", rows.place(), TransitRows.NONE);
        CHECK.due("it is closed still", rows.open(11, true), false);
    }
}
