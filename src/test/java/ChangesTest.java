import java.util.ArrayList;
import java.util.List;

/**
 * A call changes what the document says of it, and nothing else that a later call shows: each question is asked of two
 * objects that are made alike, of which one had the call besides.
 */
public final class ChangesTest {
    private static final Check CHECK = new Check();
    private static final int NONE = TransitRows.NONE;
    private static final List<String> QUESTIONS = questions();

    public static void main(String[] args) {
        beforeTheCall();
        places();
        routes();
        copies();
        slips();
        loads();
        arrivals();
        asking();
        CHECK.end();
    }

    /** Many of these change the object themselves, so each is asked of an object of its own. */
    private static List<String> questions() {
        List<String> all = new ArrayList<>(List.of("place()", "route(0, 1, 127, 0, 1)", "copy(0)", "lost(150)",
            "skip(0, 100, true)", "skip(0, 101, true)", "skip(0, 102, true)", "skip(1, 108, true)", "skip(4, 200, true)",
            "send(7, 1, 200)", "send(7, 2, 200)", "send(7, 3, 200)", "bin(0, 3, 0)", "bin(0, 3, 1)",
            "load(0, 50)", "load(0, 51)", "load(0, 101)", "load(0, 102)", "load(3, 101)", "load(3, 102)", "load(4, 200)"));
        each(all, "open(#, true)", 0, 4);
        each(all, "priority(#, true)", 1, 11);
        each(all, "floats(#, true)", 1, 11);
        each(all, "bin(0, 1, #)", 0, 2);
        each(all, "statistics(0, 1, #)", 0, 3);
        for (int i = 0; i <= 4; i++) {
            each(all, "told(" + i + ", #)", 0, 1);
        }
        for (int load = 1; load <= 5; load++) {
            each(all, "loaded(" + load + ", #)", 0, 2);
            each(all, "missing(" + load + ", #)", 0, 2);
        }
        for (int slip = 1; slip <= 10; slip++) {
            each(all, "slip(" + slip + ", #)", 0, 6);
        }
        for (int copy = 1; copy <= 11; copy++) {
            each(all, "where(" + copy + ", #)", 0, 2);
        }
        return all;
    }

    private static void each(List<String> all, String call, int first, int last) {
        for (int number : Numbers.fromTo(first, last)) {
            all.add(call.replace("#", String.valueOf(number)));
        }
    }

    private static void changes(String call, String answer, String... due) {
        CHECK.dueText(call, Calls.answerOf(Worlds.busy(), call), answer);
        List<String> missing = new ArrayList<>(List.of(due));
        for (String question : QUESTIONS) {
            TransitRows after = Worlds.busy();
            Calls.answerOf(after, call);
            String was = Calls.answerOf(Worlds.busy(), question);
            String is = Calls.answerOf(after, question);
            String change = question + ": " + was + " to " + is;
            if (!was.equals(is) && !missing.remove(change)) {
                CHECK.dueText("after " + call, change, "no such change");
            }
        }
        CHECK.dueText("changes that did not come after " + call, missing.toString(), "[]");
    }

    /** A change that a call makes each time shows here, as the object is made by such calls itself. */
    private static void beforeTheCall() {
        TransitRows rows = Worlds.busy();
        int[] stands = {NONE, NONE, 1, NONE, 2, 0, 0, NONE, NONE, NONE};
        int[] slips = {1, 2, 0, 4, 0, 0, 0, 7, 8, 9};
        for (int copy = 1; copy <= 10; copy++) {
            CHECK.dueWhere(rows, copy, stands[copy - 1], 0, slips[copy - 1]);
        }
        CHECK.dueSlip(rows, 1, 1, 0, 0, 99, 100, 101, NONE);
        CHECK.dueSlip(rows, 2, 2, 0, 1, 49, 50, 51, NONE);
        CHECK.dueSlip(rows, 3, 3, 0, 2, 0, 1, 2, 2);
        CHECK.dueSlip(rows, 4, 4, 0, 3, 0, 1, 2, NONE);
        CHECK.dueSlip(rows, 5, 5, 0, 4, 0, 1, 2, 2);
        CHECK.dueSlip(rows, 6, 6, 0, 5, 0, 1, 2, NONE);
        CHECK.dueSlip(rows, 7, 8, 3, 1, 99, 101, 101, NONE);
        CHECK.dueSlip(rows, 8, 9, 0, 0, 100, 100, 101, NONE);
        CHECK.dueSlip(rows, 9, 10, 3, 0, 99, 100, 100, NONE);
        CHECK.dueTold(rows, 1, 7, 1, 9, 2, 9);
        CHECK.dueBin(rows, 0, 1, 8, 1);
        CHECK.dueBin(rows, 0, 3, 9);
    }

    private static void places() {
        changes("place()", "4", "place(): 4 to 5", "open(4, true): false to true");
        changes("open(1, false)", "true", "open(1, true): true to false", "send(7, 1, 200): 10 to -2");
        changes("open(1, true)", "true");
        changes("open(3, true)", "false", "open(3, true): false to true", "send(7, 3, 200): -2 to 10");
        changes("open(3, false)", "false");
    }

    private static void routes() {
        changes("route(0, 2, 127, 1, 1)", "4", "route(0, 1, 127, 0, 1): 4 to 5", "send(7, 2, 200): -3 to 10",
            "skip(4, 200, true): false to true", "load(4, 200): 0 to 5");
        changes("skip(0, 102, true)", "true", "skip(0, 102, true): true to false", "load(0, 102): 5 to 0");
        changes("skip(0, 101, true)", "false");
        changes("skip(0, 101, false)", "true", "skip(0, 101, true): false to true", "load(0, 101): 0 to 5");
        changes("skip(0, 102, false)", "false");
    }

    private static void copies() {
        changes("copy(2)", "11", "copy(0): 11 to 12",
            "where(11, 0): -1 to 2", "where(11, 1): -1 to 2", "where(11, 2): -1 to 0");
        changes("priority(1, true)", "false", "priority(1, true): false to true",
            "bin(0, 1, 0): 8 to 1", "bin(0, 1, 1): 1 to 8");
        changes("priority(9, false)", "true", "priority(9, true): true to false",
            "bin(0, 1, 0): 8 to 1", "bin(0, 1, 1): 1 to 8");
        changes("priority(9, true)", "true");
        changes("floats(1, true)", "false", "floats(1, true): false to true");
        changes("floats(9, false)", "true", "floats(9, true): true to false");
        changes("floats(9, true)", "true");
    }

    private static void slips() {
        changes("send(7, 1, 200)", "10",
            "slip(10, 0): -1 to 7", "slip(10, 1): -1 to 0", "slip(10, 2): -1 to 0", "slip(10, 3): -1 to 200",
            "slip(10, 4): -1 to 201", "slip(10, 5): -1 to 202", "where(7, 0): 0 to -1", "where(7, 2): 0 to 10",
            "bin(0, 1, 2): 0 to 10",
            "send(7, 1, 200): 10 to 0", "send(7, 2, 200): -3 to 0", "send(7, 3, 200): -2 to 0");
        changes("back(1)", "1", "slip(1, 2): 0 to 5", "where(1, 0): -1 to 0", "where(1, 2): 1 to 0",
            "bin(0, 1, 1): 1 to 0");
    }

    private static void loads() {
        changes("load(0, 102)", "5",
            "slip(8, 2): 0 to 1", "slip(8, 4): 100 to 102", "slip(8, 5): 101 to 103",
            "slip(1, 2): 0 to 1", "slip(1, 4): 100 to 102", "slip(1, 5): 101 to 103",
            "loaded(5, 0): 0 to 8", "loaded(5, 1): 0 to 1", "missing(5, 0): 0 to 8", "missing(5, 1): 0 to 1",
            "bin(0, 1, 0): 8 to 0", "bin(0, 1, 1): 1 to 0", "lost(150): 2 to 4",
            "load(0, 51): 5 to 0", "load(0, 102): 5 to 0", "load(3, 102): 5 to 6");
        changes("load(3, 102)", "5", "told(3, 0): -1 to 1", "told(3, 1): -1 to 9",
            "load(0, 51): 5 to 6", "load(0, 102): 5 to 6", "load(3, 102): 5 to 0");
    }

    private static void arrivals() {
        changes("arrive(2, 1, 60)", "1", "slip(2, 2): 1 to 2", "slip(2, 6): -1 to 60",
            "where(2, 0): -1 to 1", "where(2, 2): 2 to 0", "missing(2, 0): 2 to 0", "lost(150): 2 to 1",
            "statistics(0, 1, 0): 1 to 2", "statistics(0, 1, 1): 2 to 13", "statistics(0, 1, 2): 2 to 11",
            "statistics(0, 1, 3): 2 to 6");
        changes("arrive(7, 2, 110)", "-1", "slip(7, 2): 1 to 4", "slip(7, 6): -1 to 110",
            "where(8, 0): -1 to 2", "where(8, 2): 7 to 0", "missing(4, 0): 7 to 0", "lost(150): 2 to 1");
        changes("arrive(4, 1, 200)", "1", "slip(4, 2): 3 to 2", "slip(4, 6): -1 to 200",
            "where(4, 0): -1 to 1", "where(4, 2): 4 to 0", "missing(1, 0): 4 to 0",
            "statistics(0, 1, 0): 1 to 2", "statistics(0, 1, 1): 2 to 202", "statistics(0, 1, 2): 2 to 200",
            "statistics(0, 1, 3): 2 to 101");
        changes("lost(150)", "2", "slip(2, 2): 1 to 3", "slip(7, 2): 1 to 3", "lost(150): 2 to 0");
    }

    private static void asking() {
        changes("bin(0, 1, 0)", "8");
        changes("loaded(1, 0)", "3");
        changes("missing(1, 0)", "4");
        changes("slip(1, 4)", "100");
        changes("where(9, 2)", "8");
        changes("statistics(0, 1, 3)", "2");
        changes("statistics(1, 0, 3)", "ArithmeticException");
        changes("told(2, 1)", "9");
    }
}
