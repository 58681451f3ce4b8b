/** "An object is used for at most 512 calls": all that there is room for in one object, and a right 512th answer. */
public final class FullObjectTest {
    private static final Check CHECK = new Check();
    private static final int NONE = TransitRows.NONE;
    private static final int MOST_CALLS = 512;

    private final TransitRows rows = new TransitRows();
    private int calls = 0;

    public static void main(String[] args) {
        FullObjectTest test = new FullObjectTest();
        test.makeAll();
        test.tellAHundred();
        test.loadOneByOne();
        test.sendAgain();
        test.refuseOneMore();
        test.askTheLast();
        test.reachTheLastCall();
        CHECK.end();
    }

    private void due(String call, int got, int want) {
        calls++;
        CHECK.due("call " + calls + ", " + call, got, want);
    }

    private void due(String call, boolean got, boolean want) {
        due(call, got ? 1 : 0, want ? 1 : 0);
    }

    /** Route 0 is the quickest one from 0 to 1, and has room for one. */
    private void makeAll() {
        for (int i = 0; i < 12; i++) {
            due("place", rows.place(), i);
        }
        for (int i = 0; i < 40; i++) {
            due("route", rows.route(i % 12, (i + 1) % 12, 127, i % 31, 1 + i), i);
        }
        for (int i = 0; i < 60; i++) {
            due("skip", rows.skip(0, 1000 + i, true), true);
        }
        for (int copy = 1; copy <= 60; copy++) {
            due("copy", rows.copy(0), copy);
            due("send", rows.send(copy, 1, 0), copy);
        }
    }

    private void tellAHundred() {
        due("open", rows.open(1, false), true);
        due("load", rows.load(0, 1), 1);
        due("load", rows.load(0, 2), 2);
        due("open", rows.open(1, true), false);
    }

    private void loadOneByOne() {
        for (int load = 3; load <= 60; load++) {
            due("load", rows.load(0, load), load);
        }
    }

    /** Slips 1 .. 58 come back to where they were sent from, so that their copies can be sent until there are 150. */
    private void sendAgain() {
        for (int copy = 1; copy <= 58; copy++) {
            due("arrive", rows.arrive(copy, 0, 100), -1);
            due("send", rows.send(copy, 1, 100), 60 + copy);
        }
        for (int slip = 118; slip < 150; slip++) {
            due("back", rows.back(slip), 1);
            due("send", rows.send(58, 1, 100), slip + 1);
        }
    }

    private void refuseOneMore() {
        due("the 13th place", rows.place(), NONE);
        due("the 41st route", rows.route(0, 1, 127, 0, 1), NONE);
        due("the 61st day left out", rows.skip(1, 1000, true), false);
        due("the 61st copy", rows.copy(0), 0);
        due("back", rows.back(150), 1);
        due("the 151st slip", rows.send(58, 1, 100), 0);
        due("the 61st load", rows.load(0, 200), 0);
    }

    private void askTheLast() {
        due("loaded(60, 0)", rows.loaded(60, 0), 58);
        due("loaded(60, 1)", rows.loaded(60, 1), 0);
        due("loaded(2, 0)", rows.loaded(2, 0), 0);
        due("missing(60, 0)", rows.missing(60, 0), 0);
        due("told(99, 0)", rows.told(99, 0), 1);
        due("told(99, 1)", rows.told(99, 1), 40);
        due("told(100, 1)", rows.told(100, 1), NONE);
        due("slip(150, 2)", rows.slip(150, 2), 5);
        due("slip(58, 4)", rows.slip(58, 4), 60);
        due("where(58, 0)", rows.where(58, 0), 0);
        due("where(60, 2)", rows.where(60, 2), 60);
        due("lost(99999)", rows.lost(99999), 0);
        due("statistics(0, 1, 0)", rows.statistics(0, 1, 0), 0);
        due("bin(0, 1, 58)", rows.bin(0, 1, 58), 117);
        due("bin(0, 1, 59)", rows.bin(0, 1, 59), 0);
    }

    private void reachTheLastCall() {
        due("priority", rows.priority(60, true), false);
        while (calls < MOST_CALLS - 1) {
            due("bin(0, 1, 0)", rows.bin(0, 1, 0), 60);
        }
        due("bin(0, 1, 1)", rows.bin(0, 1, 1), 59);
        CHECK.due("calls in all", calls, MOST_CALLS);
    }
}
