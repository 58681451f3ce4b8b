/** Promise 16. */
public final class LostTest {
    private static final Check CHECK = new Check();
    private static final int NONE = TransitRows.NONE;
    private static final int LAST_DAY = Numbers.LAST_DAY;

    public static void main(String[] args) {
        moreThanFourteenDays();
        byTheDayOfTheLoad();
        thatAreLoaded();
        howMany();
        noSuchDay();
        theFirstAndTheLastDay();
        behindTheLastDay();
        CHECK.end();
    }

    /** Slip 1 LOADED on a day, with a DURATION. */
    private static TransitRows withLoad(int day, int duration) {
        TransitRows rows = Worlds.withRoute(duration, 9, 1);
        rows.send(1, 1, 0);
        rows.load(0, day);
        return rows;
    }

    /** "that should have come more than 14 days before a day" */
    private static void moreThanFourteenDays() {
        for (int duration : new int[] {0, 3, 30}) {
            TransitRows rows = withLoad(5, duration);
            int due = 5 + duration;
            CHECK.due("the day before it should come", rows.lost(due - 1), 0);
            CHECK.due("on the day on which it should come", rows.lost(due), 0);
            CHECK.due("14 days", rows.lost(due + 14), 0);
            CHECK.due("LOADED still", rows.slip(1, 2), 1);
            CHECK.due("15 days", rows.lost(due + 15), 1);
            CHECK.due("LOST", rows.slip(1, 2), 3);
            CHECK.due("it is LOST already", rows.lost(due + 15), 0);
        }
    }

    private static void byTheDayOfTheLoad() {
        TransitRows rows = withLoad(50, 2);
        CHECK.due("not by the day to go when it was sent", rows.lost(66), 0);
        CHECK.due("by the load's", rows.lost(67), 1);
    }

    /** "LOADED slips": in no other state */
    private static void thatAreLoaded() {
        TransitRows rows = Worlds.withEveryState();
        CHECK.due("lost(99999)", rows.lost(LAST_DAY), 1);
        CHECK.due("WAITING", rows.slip(Worlds.WAITING, 2), 0);
        CHECK.due("LOADED was lost", rows.slip(Worlds.LOADED, 2), 3);
        CHECK.due("ARRIVED", rows.slip(Worlds.ARRIVED, 2), 2);
        CHECK.due("LOST", rows.slip(Worlds.LOST, 2), 3);
        CHECK.due("WRONG", rows.slip(Worlds.WRONG, 2), 4);
        CHECK.due("BACK", rows.slip(Worlds.BACK, 2), 5);
        CHECK.dueWhere(rows, Worlds.LOADED, NONE, 0, Worlds.LOADED);
    }

    /** "how many" */
    private static void howMany() {
        TransitRows rows = Worlds.withWaiting(20, 60);
        rows.load(0, 1);
        rows.load(0, 2);
        rows.load(0, 3);
        CHECK.due("none", rows.lost(15), 0);
        CHECK.due("those of day 1", rows.lost(16), 20);
        CHECK.due("slip 1", rows.slip(1, 2), 3);
        CHECK.due("slip 20", rows.slip(20, 2), 3);
        CHECK.due("slip 21", rows.slip(21, 2), 1);
        CHECK.due("those of days 2 and 3", rows.lost(90), 40);
        CHECK.due("slip 60", rows.slip(60, 2), 3);
    }

    /** "NONE if there is no such day" */
    private static void noSuchDay() {
        TransitRows rows = withLoad(5, 0);
        CHECK.dueEach("lost(#)", NONE, rows::lost, Numbers.NO_DAYS);
        CHECK.dueEach("lost(#)", NONE, rows::lost, Numbers.LEAST + 15, Numbers.GREATEST - 1);
        CHECK.due("LOADED still", rows.slip(1, 2), 1);
    }

    private static void theFirstAndTheLastDay() {
        TransitRows rows = withLoad(5, 0);
        CHECK.due("lost(0)", rows.lost(0), 0);
        CHECK.due("lost(99999)", rows.lost(LAST_DAY), 1);
    }

    private static void behindTheLastDay() {
        TransitRows early = withLoad(LAST_DAY - 15, 0);
        CHECK.due("15 days before the last day", early.lost(LAST_DAY), 1);
        TransitRows late = withLoad(LAST_DAY - 14, 0);
        CHECK.due("14 days before the last day", late.lost(LAST_DAY), 0);
        TransitRows behind = withLoad(LAST_DAY, 30);
        CHECK.due("it should come behind the last day", behind.lost(LAST_DAY), 0);
    }
}
