/** Promise 15. */
public final class ArriveTest {
    private static final Check CHECK = new Check();
    private static final int LAST_DAY = Numbers.LAST_DAY;

    public static void main(String[] args) {
        arrived();
        wrong();
        lostOnesCome();
        noSuchSlip();
        noSuchPlace();
        noSuchDay();
        theFirstAndTheLastDay();
        itIsNeither();
        beforeItsLoad();
        onTheDayOfItsLoad();
        atAClosedPlace();
        itFloats();
        itFloatsNot();
        aRefusedOneChangesNothing();
        CHECK.end();
    }

    /** Slips 1 .. many, LOADED on day 5 from 0 to 1 of three places, by a route of 3 days. */
    private static TransitRows withLoad(int many) {
        TransitRows rows = Worlds.withPlaces(3);
        rows.route(0, 1, 127, 3, 99);
        Worlds.addCopies(rows, 0, many);
        for (int copy = 1; copy <= many; copy++) {
            rows.send(copy, 1, 0);
        }
        rows.load(0, 5);
        return rows;
    }

    /** "1 it is ARRIVED; .. the copy STANDS there" */
    private static void arrived() {
        TransitRows rows = withLoad(2);
        CHECK.due("arrive", rows.arrive(1, 1, 8), 1);
        CHECK.dueSlip(rows, 1, 1, 0, 2, 0, 5, 8, 8);
        CHECK.dueWhere(rows, 1, 1, 0, 0);
        CHECK.dueSlip(rows, 2, 2, 0, 1, 0, 5, 8, TransitRows.NONE);
        CHECK.dueWhere(rows, 2, TransitRows.NONE, 0, 2);
    }

    /** "-1 it is WRONG; the copy STANDS there" */
    private static void wrong() {
        TransitRows rows = withLoad(2);
        CHECK.due("elsewhere", rows.arrive(1, 2, 8), -1);
        CHECK.dueSlip(rows, 1, 1, 0, 4, 0, 5, 8, 8);
        CHECK.dueWhere(rows, 1, 2, 0, 0);
        CHECK.due("at the route's beginning", rows.arrive(2, 0, 9), -1);
        CHECK.dueSlip(rows, 2, 2, 0, 4, 0, 5, 8, 9);
        CHECK.dueWhere(rows, 2, 0, 0, 0);
        rows.route(2, 0, 127, 0, 1);
        CHECK.due("it is sent from there", rows.send(1, 0, 9), 3);
        CHECK.due("by a route from there", rows.slip(3, 1), 1);
    }

    /** "A slip that is LOADED, or LOST, comes to a place" */
    private static void lostOnesCome() {
        TransitRows rows = withLoad(3);
        CHECK.due("lost(60)", rows.lost(60), 3);
        CHECK.due("before its load", rows.arrive(1, 1, 4), 0);
        CHECK.due("LOST still", rows.slip(1, 2), 3);
        CHECK.due("on a day before it was LOST", rows.arrive(1, 1, 5), 1);
        CHECK.dueSlip(rows, 1, 1, 0, 2, 0, 5, 8, 5);
        CHECK.due("elsewhere", rows.arrive(2, 2, 61), -1);
        CHECK.dueSlip(rows, 2, 2, 0, 4, 0, 5, 8, 61);
        CHECK.due("the last day", rows.arrive(3, 1, LAST_DAY), 1);
        CHECK.due("none is LOST any more", rows.lost(LAST_DAY), 0);
    }

    /** "0 if there is no such slip" */
    private static void noSuchSlip() {
        for (int many : new int[] {0, 1, 60}) {
            TransitRows rows = withLoad(many);
            CHECK.dueEach("arrive(#, 1, 9)", 0, n -> rows.arrive(n, 1, 9), Numbers.beyond(1, many));
        }
        TransitRows rows = withLoad(60);
        CHECK.due("the last slip", rows.arrive(60, 1, 9), 1);
        CHECK.due("the first slip", rows.arrive(1, 1, 9), 1);
        TransitRows full = Worlds.withRoute(0, 9, 2);
        Worlds.addSlips(full, 149);
        full.send(2, 1, 0);
        full.load(0, 1);
        CHECK.due("slip 151", full.arrive(151, 1, 1), 0);
        CHECK.due("slip 150", full.arrive(150, 1, 1), 1);
    }

    /** "0 if there is no such .. place" */
    private static void noSuchPlace() {
        TransitRows rows = withLoad(2);
        CHECK.dueEach("arrive(1, #, 9)", 0, n -> rows.arrive(1, n, 9), Numbers.beyond(0, 2));
        CHECK.due("the last place", rows.arrive(1, 2, 9), -1);
        CHECK.due("the first place", rows.arrive(2, 0, 9), -1);
        TransitRows twelve = Worlds.withPlaces(12);
        twelve.route(0, 11, 127, 0, 1);
        twelve.copy(0);
        twelve.send(1, 11, 0);
        twelve.load(0, 1);
        CHECK.dueEach("arrive(1, #, 9)", 0, n -> twelve.arrive(1, n, 9), Numbers.beyond(0, 11));
        CHECK.due("place 11", twelve.arrive(1, 11, 9), 1);
    }

    /** "0 if there is no such .. day" */
    private static void noSuchDay() {
        TransitRows rows = withLoad(1);
        CHECK.dueEach("arrive(1, 1, #)", 0, n -> rows.arrive(1, 1, n), Numbers.NO_DAYS);
        CHECK.dueEach("arrive(1, 2, #)", 0, n -> rows.arrive(1, 2, n), Numbers.NO_DAYS);
        CHECK.due("LOADED still", rows.slip(1, 2), 1);
    }

    private static void theFirstAndTheLastDay() {
        TransitRows rows = Worlds.withRoute(0, 9, 2);
        rows.priority(1, true);
        rows.priority(2, true);
        rows.send(1, 1, 0);
        rows.send(2, 1, 0);
        rows.load(0, 0);
        CHECK.due("the first day", rows.arrive(1, 1, 0), 1);
        CHECK.due("when it came", rows.slip(1, 6), 0);
        CHECK.due("the last day", rows.arrive(2, 1, LAST_DAY), 1);
        CHECK.due("when it came", rows.slip(2, 6), LAST_DAY);
    }

    /** "it is neither" */
    private static void itIsNeither() {
        TransitRows rows = Worlds.withEveryState();
        for (int slip : new int[] {Worlds.WAITING, Worlds.ARRIVED, Worlds.WRONG, Worlds.BACK}) {
            int state = rows.slip(slip, 2);
            int came = rows.slip(slip, 6);
            int stood = rows.where(slip, 0);
            CHECK.dueEach("arrive(" + slip + ", #, 200)", 0, n -> rows.arrive(slip, n, 200), 0, 1, 2);
            CHECK.due("its state stays", rows.slip(slip, 2), state);
            CHECK.due("when it came stays", rows.slip(slip, 6), came);
            CHECK.due("the copy stays", rows.where(slip, 0), stood);
        }
        CHECK.due("LOADED", rows.arrive(Worlds.LOADED, 1, 200), 1);
        CHECK.due("LOST", rows.arrive(Worlds.LOST, 1, 200), 1);
    }

    /** "or the day is before that of its load" */
    private static void beforeItsLoad() {
        TransitRows rows = withLoad(1);
        CHECK.dueEach("arrive(1, 1, #)", 0, n -> rows.arrive(1, 1, n), 0, 1, 4);
        CHECK.dueEach("arrive(1, 2, #)", 0, n -> rows.arrive(1, 2, n), 0, 1, 4);
        CHECK.dueSlip(rows, 1, 1, 0, 1, 0, 5, 8, TransitRows.NONE);
        CHECK.dueWhere(rows, 1, TransitRows.NONE, 0, 1);
    }

    private static void onTheDayOfItsLoad() {
        TransitRows rows = withLoad(2);
        CHECK.due("at the right place", rows.arrive(1, 1, 5), 1);
        CHECK.due("at a wrong one", rows.arrive(2, 2, 5), -1);
        CHECK.due("when it came", rows.slip(1, 6), 5);
    }

    private static void atAClosedPlace() {
        TransitRows rows = withLoad(2);
        rows.open(1, false);
        rows.open(2, false);
        CHECK.due("at the right place", rows.arrive(1, 1, 8), 1);
        CHECK.due("at a wrong one", rows.arrive(2, 2, 8), -1);
    }

    /** "If it is ARRIVED and the copy FLOATS, its HOME is there now." */
    private static void itFloats() {
        TransitRows rows = withLoad(3);
        for (int copy = 1; copy <= 3; copy++) {
            rows.floats(copy, true);
        }
        rows.arrive(1, 1, 8);
        CHECK.dueWhere(rows, 1, 1, 1, 0);
        rows.arrive(2, 2, 8);
        CHECK.dueWhere(rows, 2, 2, 0, 0);
        rows.arrive(3, 3, 8);
        CHECK.dueWhere(rows, 3, TransitRows.NONE, 0, 3);
        CHECK.due("it FLOATS still", rows.floats(1, false), true);
    }

    private static void itFloatsNot() {
        TransitRows rows = withLoad(2);
        rows.floats(1, true);
        rows.floats(1, false);
        rows.arrive(1, 1, 8);
        CHECK.dueWhere(rows, 1, 1, 0, 0);
        rows.arrive(2, 1, 8);
        rows.floats(2, true);
        CHECK.dueWhere(rows, 2, 1, 0, 0);
    }

    private static void aRefusedOneChangesNothing() {
        TransitRows rows = withLoad(1);
        rows.floats(1, true);
        rows.arrive(1, 1, 4);
        rows.arrive(1, 3, 8);
        rows.arrive(1, 1, LAST_DAY + 1);
        CHECK.dueSlip(rows, 1, 1, 0, 1, 0, 5, 8, TransitRows.NONE);
        CHECK.dueWhere(rows, 1, TransitRows.NONE, 0, 1);
        CHECK.dueMissing(rows, 1, 1);
        CHECK.due("statistics(0, 1, 0)", rows.statistics(0, 1, 0), 0);
    }
}
