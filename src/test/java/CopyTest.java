/** Promise 6, and of the terms: COPIES. */
public final class CopyTest {
    private static final Check CHECK = new Check();

    public static void main(String[] args) {
        itStandsAtItsHome();
        noSuchPlace();
        atAClosedPlace();
        sixtyCopies();
        aRefusedOneTakesNoNumber();
        CHECK.end();
    }

    /** "A copy more, that STANDS at its HOME" */
    private static void itStandsAtItsHome() {
        TransitRows rows = Worlds.withPlaces(12);
        CHECK.due("copy(0)", rows.copy(0), 1);
        CHECK.due("copy(11)", rows.copy(11), 2);
        CHECK.due("copy(5)", rows.copy(5), 3);
        CHECK.dueWhere(rows, 1, 0, 0, 0);
        CHECK.dueWhere(rows, 2, 11, 11, 0);
        CHECK.dueWhere(rows, 3, 5, 5, 0);
        CHECK.dueEach("priority(#, false): not at first", false, n -> rows.priority(n, false), 1, 2, 3);
        CHECK.dueEach("floats(#, false): not at first", false, n -> rows.floats(n, false), 1, 2, 3);
    }

    /** "0 if there is no such place" */
    private static void noSuchPlace() {
        for (int many : new int[] {0, 1, 12}) {
            TransitRows rows = Worlds.withPlaces(many);
            CHECK.dueEach("copy(#)", 0, rows::copy, Numbers.beyond(0, many - 1));
            CHECK.due("there is none", rows.where(1, 1), TransitRows.NONE);
        }
    }

    private static void atAClosedPlace() {
        TransitRows rows = Worlds.withPlaces(2);
        rows.open(1, false);
        CHECK.due("copy(1)", rows.copy(1), 1);
        CHECK.dueWhere(rows, 1, 1, 1, 0);
    }

    /** "COPIES are 1 .. 60, as they come"; "0 if .. there are 60" */
    private static void sixtyCopies() {
        TransitRows rows = Worlds.withPlaces(2);
        for (int i = 1; i <= 60; i++) {
            CHECK.due("where of one that is to come", rows.where(i, 0), TransitRows.NONE);
            CHECK.due("copy", rows.copy(i % 2), i);
        }
        CHECK.due("the 61st", rows.copy(0), 0);
        CHECK.due("the 62nd", rows.copy(1), 0);
        CHECK.due("there is no 61st", rows.where(61, 0), TransitRows.NONE);
        CHECK.dueWhere(rows, 1, 1, 1, 0);
        CHECK.dueWhere(rows, 59, 1, 1, 0);
        CHECK.dueWhere(rows, 60, 0, 0, 0);
    }

    private static void aRefusedOneTakesNoNumber() {
        TransitRows rows = Worlds.withPlaces(1);
        rows.copy(1);
        rows.copy(-1);
        CHECK.due("the first", rows.copy(0), 1);
        rows.copy(1);
        CHECK.due("the second", rows.copy(0), 2);
    }
}
