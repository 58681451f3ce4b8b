/** Promise 5. */
public final class SkipTest {
    private static final Check CHECK = new Check();
    private static final int LAST_DAY = Numbers.LAST_DAY;

    public static void main(String[] args) {
        whetherItIsAnotherThing();
        ofOneRouteAndOneDay();
        theFirstAndTheLastDay();
        noSuchDay();
        noSuchRoute();
        aDayThatTheMaskHasNot();
        sixtyInAll();
        sixtyNow();
        withSixtyOneRunsAgain();
        refusedOnesAreNotLeftOut();
        sentBeforeItIsLeftOut();
        CHECK.end();
    }

    /** "whether that is another thing than before" */
    private static void whetherItIsAnotherThing() {
        TransitRows rows = Worlds.withMask(127);
        CHECK.due("it runs already", rows.skip(0, 5, false), false);
        CHECK.due("left out", rows.skip(0, 5, true), true);
        CHECK.due("left out already", rows.skip(0, 5, true), false);
        CHECK.due("it runs again", rows.skip(0, 5, false), true);
        CHECK.due("it runs again already", rows.skip(0, 5, false), false);
        CHECK.due("left out once more", rows.skip(0, 5, true), true);
    }

    private static void ofOneRouteAndOneDay() {
        TransitRows rows = Worlds.withMask(127);
        rows.route(1, 0, 127, 0, 1);
        rows.skip(0, 5, true);
        CHECK.due("the next day", rows.skip(0, 6, true), true);
        CHECK.due("a week later", rows.skip(0, 12, true), true);
        CHECK.due("another route", rows.skip(1, 5, true), true);
        CHECK.due("it runs again", rows.skip(0, 5, false), true);
        CHECK.due("the next day, still", rows.skip(0, 6, true), false);
        CHECK.due("a week later, still", rows.skip(0, 12, true), false);
        CHECK.due("another route, still", rows.skip(1, 5, true), false);
    }

    /** "DAYS are 0 .. 99999" */
    private static void theFirstAndTheLastDay() {
        TransitRows rows = Worlds.withMask(127);
        CHECK.dueEach("skip(0, #, true)", true, n -> rows.skip(0, n, true), 0, LAST_DAY);
        CHECK.dueEach("load(0, #)", 0, n -> rows.load(0, n), 0, LAST_DAY);
        CHECK.dueEach("skip(0, #, false)", true, n -> rows.skip(0, n, false), 0, LAST_DAY);
        CHECK.due("load on the first day", rows.load(0, 0), 1);
        CHECK.due("load on the last day", rows.load(0, LAST_DAY), 2);
    }

    /** "false also if there is no such .. day" */
    private static void noSuchDay() {
        TransitRows rows = Worlds.withMask(127);
        CHECK.dueEach("skip(0, #, true)", false, n -> rows.skip(0, n, true), Numbers.NO_DAYS);
        CHECK.dueEach("skip(0, #, true) again", false, n -> rows.skip(0, n, true), Numbers.NO_DAYS);
        CHECK.dueEach("skip(0, #, false)", false, n -> rows.skip(0, n, false), Numbers.NO_DAYS);
    }

    /** "false also if there is no such route" */
    private static void noSuchRoute() {
        for (int many : new int[] {0, 1, 40}) {
            TransitRows rows = Worlds.withPlaces(2);
            for (int i = 0; i < many; i++) {
                rows.route(0, 1, 127, 0, 1);
            }
            int[] none = Numbers.beyond(0, many - 1);
            CHECK.dueEach("skip(#, 5, true)", false, n -> rows.skip(n, 5, true), none);
            CHECK.dueEach("skip(#, 5, false)", false, n -> rows.skip(n, 5, false), none);
        }
        TransitRows rows = Worlds.withPlaces(2);
        rows.skip(0, 5, true);
        rows.route(0, 1, 127, 0, 1);
        CHECK.due("a route that came later runs", rows.load(0, 5), 1);
    }

    private static void aDayThatTheMaskHasNot() {
        TransitRows rows = Worlds.withMask(1);
        CHECK.due("told to be left out", rows.skip(0, 3, true), true);
        CHECK.due("told already", rows.skip(0, 3, true), false);
        CHECK.due("told no more", rows.skip(0, 3, false), true);
        CHECK.due("told no more already", rows.skip(0, 3, false), false);
    }

    private static TransitRows withSixty() {
        TransitRows rows = Worlds.withMask(127);
        rows.route(1, 0, 127, 0, 1);
        for (int i = 0; i < 60; i++) {
            CHECK.due("left out", rows.skip(i % 2, 10 + i, true), true);
        }
        return rows;
    }

    /** "or 60 days are left out in all now": of all routes together */
    private static void sixtyInAll() {
        TransitRows rows = withSixty();
        CHECK.due("the 61st", rows.skip(0, 100, true), false);
        CHECK.due("the 61st, of the other route", rows.skip(1, 101, true), false);
        CHECK.due("the 61st, a day left out for the other route", rows.skip(0, 69, true), false);
        CHECK.due("one that is left out already", rows.skip(1, 69, true), false);
        CHECK.due("the first does not run", rows.load(0, 10), 0);
        CHECK.due("the 60th does not run", rows.load(1, 69), 0);
        CHECK.due("the 61st runs", rows.load(0, 100), 1);
        CHECK.due("the other 61st runs", rows.load(1, 101), 2);
    }

    /** "left out in all now": those that run again count no more */
    private static void sixtyNow() {
        TransitRows rows = Worlds.withMask(127);
        for (int i = 0; i < 100; i++) {
            CHECK.due("left out", rows.skip(0, i, true), true);
            CHECK.due("it runs again", rows.skip(0, i, false), true);
        }
        for (int i = 0; i < 60; i++) {
            CHECK.due("left out", rows.skip(0, 200 + i, true), true);
        }
        CHECK.due("the 61st", rows.skip(0, 300, true), false);
    }

    /** Those 60 are a limit of leaving out, so to let one run again is another thing than before. */
    private static void withSixtyOneRunsAgain() {
        TransitRows rows = withSixty();
        CHECK.due("one that runs anyway", rows.skip(0, 100, false), false);
        CHECK.due("one runs again", rows.skip(0, 10, false), true);
        CHECK.due("it does", rows.load(0, 10), 1);
        CHECK.due("room for one", rows.skip(1, 100, true), true);
        CHECK.due("room for no more", rows.skip(1, 101, true), false);
        CHECK.due("that one does not run", rows.load(1, 100), 0);
        for (int i = 1; i < 60; i++) {
            CHECK.due("those before are left out still", rows.load(i % 2, 10 + i), 0);
        }
        CHECK.due("the first of them runs again", rows.skip(1, 11, false), true);
        CHECK.due("the last of them runs again", rows.skip(1, 69, false), true);
    }

    private static void refusedOnesAreNotLeftOut() {
        TransitRows rows = Worlds.withMask(127);
        rows.skip(0, 9, true);
        for (int i = 0; i < 60; i++) {
            rows.skip(0, -1, true);
            rows.skip(1, i, true);
            rows.skip(0, 9, true);
        }
        for (int i = 1; i < 60; i++) {
            CHECK.due("left out", rows.skip(0, 9 + i, true), true);
        }
        CHECK.due("the 61st", rows.skip(0, 100, true), false);
    }

    private static void sentBeforeItIsLeftOut() {
        TransitRows rows = Worlds.withRoute(0, 9, 1);
        rows.send(1, 1, 4);
        rows.skip(0, 5, true);
        CHECK.due("the day to go stays", rows.slip(1, 4), 5);
        CHECK.due("load on that day", rows.load(0, 5), 0);
        CHECK.due("load on the next one", rows.load(0, 6), 1);
        CHECK.dueLoaded(rows, 1, 1);
    }
}
