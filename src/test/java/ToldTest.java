/** Promise 20. */
public final class ToldTest {
    private static final Check CHECK = new Check();
    private static final int NONE = TransitRows.NONE;

    public static void main(String[] args) {
        asItIsTold();
        fromZeroOn();
        nothingIsTold();
        forAnotherWhat();
        aHundred();
        moreAreLost();
        moreAreLostWithinALoad();
        itStaysTold();
        CHECK.end();
    }

    /** "0: 1 or 2, 1: the slip" */
    private static void asItIsTold() {
        TransitRows rows = Worlds.withWaiting(1, 3);
        rows.load(0, 1);
        rows.open(1, false);
        rows.load(0, 2);
        CHECK.dueTold(rows, 2, 2, 2, 3, 1, 2, 1, 3);
    }

    /** "the i-th, from 0 on"; "NONE if there is none such" */
    private static void fromZeroOn() {
        TransitRows rows = Worlds.withWaiting(1, 3);
        rows.load(0, 1);
        CHECK.dueEach("told(#, 0)", NONE, n -> rows.told(n, 0), Numbers.beyond(0, 1));
        CHECK.dueEach("told(#, 1)", NONE, n -> rows.told(n, 1), Numbers.beyond(0, 1));
        CHECK.due("told(0, 1)", rows.told(0, 1), 2);
        CHECK.due("told(1, 1)", rows.told(1, 1), 3);
    }

    private static void nothingIsTold() {
        TransitRows rows = Worlds.withWaiting(3, 3);
        rows.load(0, 1);
        rows.open(1, false);
        rows.load(0, 2);
        CHECK.dueEach("told(#, 0)", NONE, n -> rows.told(n, 0), -1, 0, 1, 99, 100);
        CHECK.dueEach("told(#, 1)", NONE, n -> rows.told(n, 1), -1, 0, 1, 99, 100);
    }

    /** "or for another what" */
    private static void forAnotherWhat() {
        TransitRows rows = Worlds.withWaiting(1, 2);
        rows.load(0, 1);
        CHECK.dueEach("told(0, #)", NONE, n -> rows.told(0, n), Numbers.beyond(0, 1));
        CHECK.dueEach("told(1, #)", NONE, n -> rows.told(1, n), Numbers.beyond(0, 1));
    }

    /** Fifty that are TOLD as 2, slips 11 .. 60, and the end is closed. */
    private static TransitRows withFifty() {
        TransitRows rows = Worlds.withWaiting(10, 60);
        rows.load(0, 1);
        rows.open(1, false);
        CHECK.due("told(49, 1)", rows.told(49, 1), 60);
        CHECK.due("told(50, 1)", rows.told(50, 1), NONE);
        return rows;
    }

    private static void dueTheHundred(TransitRows rows) {
        for (int i = 0; i < 100; i++) {
            CHECK.due("told(" + i + ", 0)", rows.told(i, 0), i < 50 ? 2 : 1);
            CHECK.due("told(" + i + ", 1)", rows.told(i, 1), 11 + i % 50);
        }
        CHECK.dueEach("told(#, 0)", NONE, n -> rows.told(n, 0), Numbers.beyond(0, 99));
        CHECK.dueEach("told(#, 1)", NONE, n -> rows.told(n, 1), Numbers.beyond(0, 99));
    }

    /** "100 at most" */
    private static void aHundred() {
        TransitRows rows = withFifty();
        rows.load(0, 2);
        dueTheHundred(rows);
    }

    /** "more are lost" */
    private static void moreAreLost() {
        TransitRows rows = withFifty();
        rows.load(0, 2);
        CHECK.due("a load that tells more", rows.load(0, 3), 3);
        rows.open(1, true);
        CHECK.due("a load that tells more", rows.load(0, 4), 4);
        CHECK.due("it is LOADED nevertheless", rows.loaded(4, 9), 20);
        dueTheHundred(rows);
    }

    private static void moreAreLostWithinALoad() {
        TransitRows rows = Worlds.withWaiting(19, 60);
        rows.load(0, 1);
        rows.open(1, false);
        rows.load(0, 2);
        rows.load(0, 3);
        CHECK.due("told(40, 1)", rows.told(40, 1), 60);
        CHECK.due("told(41, 1)", rows.told(41, 1), 20);
        CHECK.due("told(81, 1)", rows.told(81, 1), 60);
        CHECK.due("told(82, 1)", rows.told(82, 1), 20);
        CHECK.due("told(98, 1)", rows.told(98, 1), 36);
        CHECK.due("told(99, 1)", rows.told(99, 1), 37);
        CHECK.due("told(100, 1)", rows.told(100, 1), NONE);
        CHECK.due("told(0, 1)", rows.told(0, 1), 20);
    }

    private static void itStaysTold() {
        TransitRows rows = Worlds.withWaiting(1, 2);
        rows.load(0, 1);
        CHECK.dueTold(rows, 2, 2);
        rows.back(2);
        CHECK.dueTold(rows, 2, 2);
        rows.load(0, 2);
        CHECK.dueTold(rows, 2, 2);
    }
}
