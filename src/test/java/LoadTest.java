/** Promise 12, and of the terms: LOADS. */
public final class LoadTest {
    private static final Check CHECK = new Check();
    private static final int LAST_DAY = Numbers.LAST_DAY;

    public static void main(String[] args) {
        noSuchRoute();
        noSuchDay();
        theFirstAndTheLastDay();
        itDoesNotRun();
        onThatDayOrALaterOne();
        ofThatRouteAlone();
        alsoIfNothingIsLoaded();
        whoseDayToGoIsNotBehindIt();
        theirDayToGoIsThatDayNow();
        asManyAsThereIsRoom();
        theGreatestRoom();
        theEndIsClosed();
        theEndIsClosedAndRoomIsLittle();
        theBeginningIsClosed();
        ofItsOwnSlips();
        onlyWaiting();
        sixtyLoads();
        aRefusedOneIsNoLoad();
        CHECK.end();
    }

    /** "0 if there is no such route" */
    private static void noSuchRoute() {
        for (int many : new int[] {0, 1, 40}) {
            TransitRows rows = Worlds.withPlaces(2);
            for (int i = 0; i < many; i++) {
                rows.route(0, 1, 127, 0, 1);
            }
            CHECK.dueEach("load(#, 5)", 0, n -> rows.load(n, 5), Numbers.beyond(0, many - 1));
            CHECK.due("there is no load", rows.loaded(1, 0), 0);
            CHECK.due("the last route", rows.load(many - 1, 5), many == 0 ? 0 : 1);
        }
    }

    /** "0 if there is no such .. day" */
    private static void noSuchDay() {
        TransitRows rows = Worlds.withWaiting(9, 1);
        CHECK.dueEach("load(0, #)", 0, n -> rows.load(0, n), Numbers.NO_DAYS);
        CHECK.dueEach("load(0, #)", 0, n -> rows.load(0, n), -7, Numbers.LEAST + 1, LAST_DAY + 7);
        CHECK.due("WAITING still", rows.slip(1, 2), 0);
        CHECK.due("the least day is free still", rows.load(0, 0), 1);
    }

    private static void theFirstAndTheLastDay() {
        TransitRows rows = Worlds.withWaiting(9, 1);
        CHECK.due("the first day", rows.load(0, 0), 1);
        CHECK.due("the last day", rows.load(0, LAST_DAY), 2);
        CHECK.dueLoaded(rows, 1);
        CHECK.dueLoaded(rows, 2, 1);
        CHECK.due("the last day once more", rows.load(0, LAST_DAY), 0);
        CHECK.due("no day is behind it", rows.load(0, LAST_DAY + 1), 0);
    }

    /** "the route does not RUN" */
    private static void itDoesNotRun() {
        TransitRows rows = Worlds.withMask(1 << 2);
        rows.copy(0);
        rows.send(1, 1, 0);
        CHECK.due("the day before", rows.load(0, 8), 0);
        rows.skip(0, 9, true);
        CHECK.due("a day left out", rows.load(0, 9), 0);
        CHECK.due("the day behind", rows.load(0, 10), 0);
        CHECK.due("WAITING still", rows.slip(1, 2), 0);
        CHECK.due("its day to go stays", rows.slip(1, 4), 2);
        rows.skip(0, 9, false);
        CHECK.due("it runs again", rows.load(0, 9), 1);
        CHECK.dueLoaded(rows, 1, 1);
    }

    /** "it had a load on that day or a later one" */
    private static void onThatDayOrALaterOne() {
        TransitRows rows = Worlds.withWaiting(1, 3);
        CHECK.due("load(0, 9)", rows.load(0, 9), 1);
        CHECK.due("on that day", rows.load(0, 9), 0);
        CHECK.due("the day before", rows.load(0, 8), 0);
        CHECK.due("the first day", rows.load(0, 0), 0);
        CHECK.due("WAITING still", rows.slip(2, 2), 0);
        CHECK.dueTold(rows, 2, 2, 2, 3);
        CHECK.due("the day behind", rows.load(0, 10), 2);
        CHECK.due("between them", rows.load(0, 9), 0);
        CHECK.dueLoaded(rows, 1, 1);
        CHECK.dueLoaded(rows, 2, 2);
    }

    /** "it had a load": not another route */
    private static void ofThatRouteAlone() {
        TransitRows rows = Worlds.withPlaces(2);
        rows.route(0, 1, 127, 0, 1);
        rows.route(0, 1, 127, 0, 1);
        CHECK.due("route 0", rows.load(0, 9), 1);
        CHECK.due("route 1 on that day", rows.load(1, 9), 2);
        CHECK.due("route 1 before that day", rows.load(1, 8), 0);
        CHECK.due("route 1 on a later day", rows.load(1, 50), 3);
        CHECK.due("route 0 before that one", rows.load(0, 10), 4);
    }

    /** "its number (also if nothing is LOADED)" */
    private static void alsoIfNothingIsLoaded() {
        TransitRows rows = Worlds.withWaiting(9, 1);
        CHECK.due("none is due", rows.load(0, 0), 1);
        CHECK.dueLoaded(rows, 1);
        CHECK.dueMissing(rows, 1);
        CHECK.dueTold(rows);
        rows.back(1);
        CHECK.due("none is WAITING", rows.load(0, 1), 2);
        CHECK.dueLoaded(rows, 2);
        CHECK.due("that day had its load", rows.load(0, 1), 0);
    }

    /** "those of its WAITING slips whose DAY TO GO is not behind it" */
    private static void whoseDayToGoIsNotBehindIt() {
        TransitRows rows = Worlds.withRoute(3, 9, 3);
        rows.send(1, 1, 8);
        rows.send(2, 1, 9);
        rows.send(3, 1, 10);
        CHECK.due("load", rows.load(0, 10), 1);
        CHECK.dueLoaded(rows, 1, 1, 2);
        CHECK.dueSlip(rows, 3, 3, 0, 0, 10, 11, 14);
        CHECK.dueTold(rows);
    }

    /** "are LOADED (their DAY TO GO is that day now)" */
    private static void theirDayToGoIsThatDayNow() {
        TransitRows rows = Worlds.withRoute(3, 1, 2);
        rows.send(1, 1, 4);
        rows.send(2, 1, 5);
        rows.load(0, 10);
        CHECK.dueSlip(rows, 1, 1, 0, 1, 4, 10, 13);
        CHECK.dueSlip(rows, 2, 2, 0, 0, 5, 6, 9);
    }

    /** "as many as there is ROOM"; "those for which there is no ROOM are TOLD as 2" */
    private static void asManyAsThereIsRoom() {
        TransitRows less = Worlds.withWaiting(3, 2);
        CHECK.due("two in a room for three", less.load(0, 1), 1);
        CHECK.dueLoaded(less, 1, 1, 2);
        CHECK.dueTold(less);
        TransitRows even = Worlds.withWaiting(3, 3);
        CHECK.due("three in a room for three", even.load(0, 1), 1);
        CHECK.dueLoaded(even, 1, 1, 2, 3);
        CHECK.dueTold(even);
        TransitRows more = Worlds.withWaiting(3, 4);
        CHECK.due("four for a room for three", more.load(0, 1), 1);
        CHECK.dueLoaded(more, 1, 1, 2, 3);
        CHECK.dueTold(more, 2, 4);
        CHECK.dueSlip(more, 4, 4, 0, 0, 0, 1, 1);
        CHECK.due("there is room for it in the next", more.load(0, 2), 2);
        CHECK.dueLoaded(more, 2, 4);
        CHECK.dueTold(more, 2, 4);
    }

    /** "ROOM for copies, 1 .. 99" */
    private static void theGreatestRoom() {
        TransitRows least = Worlds.withWaiting(1, 3);
        least.load(0, 1);
        CHECK.dueLoaded(least, 1, 1);
        CHECK.dueTold(least, 2, 2, 2, 3);
        TransitRows almost = Worlds.withWaiting(59, 60);
        almost.load(0, 1);
        CHECK.dueLoaded(almost, 1, Numbers.fromTo(1, 59));
        CHECK.dueTold(almost, 2, 60);
        TransitRows greatest = Worlds.withWaiting(99, 60);
        greatest.load(0, 1);
        CHECK.dueLoaded(greatest, 1, Numbers.fromTo(1, 60));
        CHECK.dueTold(greatest);
    }

    /** "If the route's end is closed none is, and each of them is TOLD as 1" */
    private static void theEndIsClosed() {
        TransitRows rows = Worlds.withRoute(0, 9, 3);
        rows.send(1, 1, 3);
        rows.send(2, 1, 2);
        rows.send(3, 1, 5);
        rows.open(1, false);
        CHECK.due("load", rows.load(0, 5), 1);
        CHECK.dueLoaded(rows, 1);
        CHECK.dueTold(rows, 1, 2, 1, 1);
        CHECK.dueSlip(rows, 2, 2, 0, 0, 2, 3, 3);
        CHECK.due("that day had its load", rows.load(0, 5), 0);
        rows.open(1, true);
        CHECK.due("open again", rows.load(0, 6), 2);
        CHECK.dueLoaded(rows, 2, 2, 1, 3);
        CHECK.dueTold(rows, 1, 2, 1, 1);
    }

    /** As none is LOADED, those beyond the ROOM are of "each of them" too. */
    private static void theEndIsClosedAndRoomIsLittle() {
        TransitRows rows = Worlds.withWaiting(1, 3);
        rows.open(1, false);
        rows.load(0, 1);
        CHECK.dueTold(rows, 1, 1, 1, 2, 1, 3);
        rows.open(1, true);
        rows.load(0, 2);
        CHECK.dueLoaded(rows, 2, 1);
        CHECK.dueTold(rows, 1, 1, 1, 2, 1, 3, 2, 2, 2, 3);
    }

    private static void theBeginningIsClosed() {
        TransitRows rows = Worlds.withWaiting(1, 2);
        rows.open(0, false);
        CHECK.due("load", rows.load(0, 1), 1);
        CHECK.dueLoaded(rows, 1, 1);
        CHECK.dueTold(rows, 2, 2);
    }

    private static void ofItsOwnSlips() {
        TransitRows rows = Worlds.withPlaces(2);
        rows.route(0, 1, 1, 0, 9);
        rows.route(0, 1, 127, 9, 9);
        Worlds.addCopies(rows, 0, 2);
        rows.send(1, 1, 6);
        rows.skip(0, 7, true);
        rows.skip(0, 14, true);
        rows.send(2, 1, 6);
        CHECK.due("by route 0", rows.slip(1, 1), 0);
        CHECK.due("by route 1", rows.slip(2, 1), 1);
        CHECK.due("load", rows.load(1, 20), 1);
        CHECK.dueLoaded(rows, 1, 2);
        CHECK.dueBin(rows, 0, 1, 1);
    }

    private static void onlyWaiting() {
        TransitRows rows = Worlds.withEveryState();
        rows.load(0, 100);
        CHECK.dueLoaded(rows, 3, Worlds.WAITING);
        CHECK.dueLoaded(rows, 2, Worlds.LOADED);
        CHECK.due("LOADED stays as it was", rows.slip(Worlds.LOADED, 4), 50);
    }

    /** "LOADS are 1 .. 60, as they come"; "0 if .. there are 60" */
    private static void sixtyLoads() {
        TransitRows rows = Worlds.withWaiting(1, 1);
        rows.route(1, 0, 127, 0, 1);
        for (int i = 1; i <= 59; i++) {
            CHECK.due("load", rows.load(1, i), i);
        }
        rows.copy(1);
        rows.send(2, 0, 59);
        CHECK.due("the 60th", rows.load(1, 60), 60);
        CHECK.dueLoaded(rows, 60, 2);
        CHECK.due("the 61st", rows.load(1, 61), 0);
        CHECK.due("the 61st, of another route", rows.load(0, 61), 0);
        CHECK.due("nothing is LOADED", rows.slip(1, 2), 0);
        CHECK.due("nothing is TOLD", rows.told(0, 0), TransitRows.NONE);
    }

    private static void aRefusedOneIsNoLoad() {
        TransitRows rows = Worlds.withMask(127);
        rows.skip(0, 50, true);
        CHECK.due("a day left out", rows.load(0, 50), 0);
        CHECK.due("no such route", rows.load(1, 60), 0);
        CHECK.due("the first, on a day before", rows.load(0, 49), 1);
        CHECK.due("on that day", rows.load(0, 49), 0);
        CHECK.due("the second", rows.load(0, 51), 2);
    }
}
