/** Of the terms: DAYS, and when a route RUNS. */
public final class RunsTest {
    private static final Check CHECK = new Check();
    private static final int LAST_DAY = Numbers.LAST_DAY;

    public static void main(String[] args) {
        everyBitOfAMask();
        theWeekWraps();
        theFirstDay();
        theLastDay();
        notOnADayLeftOut();
        againByItsMask();
        leftOutForOneRoute();
        CHECK.end();
    }

    /** "days of the week (bits 0 .. 6 of a mask: a day modulo 7)" */
    private static void everyBitOfAMask() {
        for (int mask = 1; mask <= 127; mask++) {
            TransitRows rows = Worlds.withMask(mask);
            int loads = 0;
            for (int day = 0; day <= 14; day++) {
                boolean runs = (mask >> day % 7) % 2 == 1;
                loads += runs ? 1 : 0;
                CHECK.due("load(0, " + day + "), mask " + mask, rows.load(0, day), runs ? loads : 0);
            }
        }
    }

    /** "a day modulo 7", for a copy that is sent on the last day of a week */
    private static void theWeekWraps() {
        for (int bit = 0; bit < 7; bit++) {
            TransitRows rows = Worlds.withMask(1 << bit);
            Worlds.addCopies(rows, 0, 2);
            CHECK.due("day to go, sent on day 6", rows.slip(rows.send(1, 1, 6), 4), 7 + bit);
            CHECK.due("day to go, sent on day 699", rows.slip(rows.send(2, 1, 699), 4), 700 + bit);
        }
    }

    /** "DAYS are 0 .. 99999": day 0 is bit 0 of the mask */
    private static void theFirstDay() {
        TransitRows rows = Worlds.withMask(1);
        rows.copy(0);
        rows.priority(1, true);
        CHECK.due("send on day 0", rows.send(1, 1, 0), 1);
        CHECK.due("it goes on day 0", rows.slip(1, 4), 0);
        CHECK.due("load on day 0", rows.load(0, 0), 1);
        CHECK.dueLoaded(rows, 1, 1);
        CHECK.due("arrive on day 0", rows.arrive(1, 1, 0), 1);
        CHECK.due("no day before it", rows.load(0, -7), 0);
    }

    /** "DAYS are 0 .. 99999": day 99999 is bit 4 of the mask */
    private static void theLastDay() {
        TransitRows rows = Worlds.withMask(1 << 4);
        CHECK.due("load on the day before", rows.load(0, LAST_DAY - 1), 0);
        CHECK.due("load on the last day", rows.load(0, LAST_DAY), 1);
        CHECK.due("load a week behind it", rows.load(0, LAST_DAY + 7), 0);
        TransitRows others = Worlds.withMask(127 - (1 << 4));
        CHECK.due("load on the last day, by all other bits", others.load(0, LAST_DAY), 0);
        CHECK.due("load on the day before", others.load(0, LAST_DAY - 1), 1);
    }

    /** "and the day was not told to be left out for it" */
    private static void notOnADayLeftOut() {
        TransitRows rows = Worlds.withMask(2);
        rows.copy(0);
        rows.skip(0, 8, true);
        CHECK.due("send", rows.send(1, 1, 2), 1);
        CHECK.due("the day to go, behind the day left out", rows.slip(1, 4), 15);
        CHECK.due("load on the day before", rows.load(0, 7), 0);
        CHECK.due("load on the day left out", rows.load(0, 8), 0);
        CHECK.due("load on the day behind", rows.load(0, 9), 0);
        CHECK.due("load a week later", rows.load(0, 15), 1);
    }

    /** "or runs again by its mask" */
    private static void againByItsMask() {
        TransitRows rows = Worlds.withMask(2);
        rows.skip(0, 8, true);
        rows.skip(0, 9, true);
        rows.skip(0, 8, false);
        rows.skip(0, 9, false);
        CHECK.due("load on a day that the mask has", rows.load(0, 8), 1);
        CHECK.due("load on a day that it has not", rows.load(0, 9), 0);
    }

    /** "left out for it" */
    private static void leftOutForOneRoute() {
        TransitRows rows = Worlds.withMask(127);
        rows.route(0, 1, 127, 0, 1);
        rows.skip(0, 3, true);
        CHECK.due("load of the other route", rows.load(1, 3), 1);
        CHECK.due("load of that route", rows.load(0, 3), 0);
        CHECK.due("load of that route on the next day", rows.load(0, 4), 2);
    }
}
