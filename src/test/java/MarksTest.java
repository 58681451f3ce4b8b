/** Promises 7 and 8: priority and floats promise the same, each of a mark of its own. */
public final class MarksTest {
    private static final Check CHECK = new Check();

    private interface Mark {
        boolean set(TransitRows rows, int copy, boolean on);
    }

    public static void main(String[] args) {
        ofAMark("priority", TransitRows::priority, TransitRows::floats);
        ofAMark("floats", TransitRows::floats, TransitRows::priority);
        CHECK.end();
    }

    private static void ofAMark(String name, Mark mark, Mark other) {
        whatItWas(name, mark);
        theFirstAndTheLastCopy(name, mark);
        falseIfThereIsNoneSuch(name, mark);
        refusedForACopyToCome(name, mark);
        theOtherMarkStays(name, mark, other);
        whileItHasASlip(name, mark);
        itStaysMarked(name, mark);
    }

    /** "or not (at first): what it was" */
    private static void whatItWas(String name, Mark mark) {
        TransitRows rows = Worlds.withRoute(0, 1, 1);
        CHECK.due(name + ": not at first", mark.set(rows, 1, false), false);
        CHECK.due(name + ": on", mark.set(rows, 1, true), false);
        CHECK.due(name + ": still on", mark.set(rows, 1, true), true);
        CHECK.due(name + ": off", mark.set(rows, 1, false), true);
        CHECK.due(name + ": still off", mark.set(rows, 1, false), false);
    }

    /** "COPIES are 1 .. 60" */
    private static void theFirstAndTheLastCopy(String name, Mark mark) {
        TransitRows rows = Worlds.withRoute(0, 1, 60);
        CHECK.dueEach(name + "(#, true)", false, n -> mark.set(rows, n, true), 1, 60);
        CHECK.dueEach(name + "(#, false)", false, n -> mark.set(rows, n, false), Numbers.fromTo(2, 59));
        CHECK.dueEach(name + "(#, false)", true, n -> mark.set(rows, n, false), 1, 60);
    }

    /** "false if there is none such" */
    private static void falseIfThereIsNoneSuch(String name, Mark mark) {
        for (int many : new int[] {0, 1, 60}) {
            TransitRows rows = Worlds.withRoute(0, 1, many);
            int[] none = Numbers.beyond(1, many);
            CHECK.dueEach(name + "(#, true)", false, n -> mark.set(rows, n, true), none);
            CHECK.dueEach(name + "(#, true) again", false, n -> mark.set(rows, n, true), none);
            CHECK.dueEach(name + "(#, false)", false, n -> mark.set(rows, n, false), none);
        }
    }

    private static void refusedForACopyToCome(String name, Mark mark) {
        TransitRows rows = Worlds.withRoute(0, 1, 0);
        mark.set(rows, 1, true);
        rows.copy(0);
        CHECK.due(name + ": not at first", mark.set(rows, 1, false), false);
    }

    private static void theOtherMarkStays(String name, Mark mark, Mark other) {
        TransitRows rows = Worlds.withRoute(0, 1, 2);
        other.set(rows, 2, true);
        mark.set(rows, 1, true);
        mark.set(rows, 2, false);
        CHECK.due(name + " on leaves the other one off", other.set(rows, 1, false), false);
        CHECK.due(name + " off leaves the other one on", other.set(rows, 2, false), true);
    }

    private static void whileItHasASlip(String name, Mark mark) {
        TransitRows rows = Worlds.withEveryState();
        for (int copy = 1; copy <= 6; copy++) {
            CHECK.due(name + ": on", mark.set(rows, copy, true), false);
            CHECK.due(name + ": off", mark.set(rows, copy, false), true);
        }
    }

    /** "what it was": what becomes of the copy leaves its mark as it was told last */
    private static void itStaysMarked(String name, Mark mark) {
        for (boolean on : new boolean[] {true, false}) {
            TransitRows rows = Worlds.withRoute(0, 9, 2);
            mark.set(rows, 1, on);
            mark.set(rows, 2, on);
            rows.send(1, 1, 0);
            CHECK.due(name + " when WAITING", mark.set(rows, 1, on), on);
            rows.back(1);
            CHECK.due(name + " when BACK", mark.set(rows, 1, on), on);
            rows.send(1, 1, 0);
            rows.send(2, 1, 0);
            rows.load(0, 1);
            CHECK.due(name + " when LOADED", mark.set(rows, 1, on), on);
            rows.lost(60);
            CHECK.due(name + " when LOST", mark.set(rows, 1, on), on);
            rows.arrive(2, 1, 61);
            CHECK.due(name + " when ARRIVED", mark.set(rows, 1, on), on);
            rows.arrive(3, 0, 61);
            CHECK.due(name + " when WRONG", mark.set(rows, 2, on), on);
        }
    }
}
