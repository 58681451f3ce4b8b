/** Promise 10. */
public final class BackTest {
    private static final Check CHECK = new Check();

    public static void main(String[] args) {
        takenOutOfTheBin();
        theCopyStandsWhereItWas();
        noneSuch();
        theFirstAndTheLast();
        notWaiting();
        CHECK.end();
    }

    /** "A slip that is WAITING is taken out of the bin" */
    private static void takenOutOfTheBin() {
        TransitRows rows = Worlds.withWaiting(9, 3);
        CHECK.due("back(2)", rows.back(2), 1);
        CHECK.due("its state", rows.slip(2, 2), 5);
        CHECK.dueBin(rows, 0, 1, 1, 3);
        CHECK.due("load", rows.load(0, 1), 1);
        CHECK.dueLoaded(rows, 1, 1, 3);
        CHECK.due("its day to go stays", rows.slip(2, 4), 1);
    }

    /** "the copy stands where it was" */
    private static void theCopyStandsWhereItWas() {
        TransitRows rows = Worlds.withEveryState();
        rows.route(2, 1, 127, 0, 1);
        CHECK.due("send from where it came wrongly", rows.send(Worlds.WRONG, 1, 200), 7);
        CHECK.dueWhere(rows, Worlds.WRONG, TransitRows.NONE, 0, 7);
        CHECK.due("back(7)", rows.back(7), 1);
        CHECK.dueWhere(rows, Worlds.WRONG, 2, 0, 0);
        CHECK.due("it can be sent again", rows.send(Worlds.WRONG, 1, 200), 8);
    }

    /** "0 if there is none such" */
    private static void noneSuch() {
        for (int many : new int[] {0, 1, 6}) {
            TransitRows rows = Worlds.withWaiting(9, many);
            CHECK.dueEach("back(#)", 0, rows::back, Numbers.beyond(1, many));
        }
    }

    /** "SLIPS are 1 .. 150" */
    private static void theFirstAndTheLast() {
        TransitRows rows = Worlds.withRoute(0, 9, 3);
        rows.send(2, 1, 0);
        for (int i = 2; i < 150; i++) {
            CHECK.due("send", rows.send(1, 1, 0), i);
            CHECK.due("back", rows.back(i), 1);
        }
        rows.send(3, 1, 0);
        CHECK.dueEach("back(#)", 0, rows::back, Numbers.beyond(1, 150));
        CHECK.dueBin(rows, 0, 1, 1, 150);
        CHECK.dueEach("back(#)", 1, rows::back, 1, 150);
        CHECK.dueEach("back(#) again", 0, rows::back, 1, 150);
        CHECK.dueBin(rows, 0, 1);
    }

    /** "or it is not WAITING" */
    private static void notWaiting() {
        TransitRows rows = Worlds.withEveryState();
        for (int slip = 2; slip <= 6; slip++) {
            int before = rows.slip(slip, 2);
            int stood = rows.where(slip, 0);
            CHECK.due("back(" + slip + ")", rows.back(slip), 0);
            CHECK.due("its state stays", rows.slip(slip, 2), before);
            CHECK.due("the copy stays", rows.where(slip, 0), stood);
        }
        CHECK.due("WAITING", rows.back(Worlds.WAITING), 1);
        CHECK.due("BACK now", rows.back(Worlds.WAITING), 0);
    }
}
