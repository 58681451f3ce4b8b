import java.util.ArrayList;
import java.util.List;
import java.util.function.Consumer;
import java.util.function.IntFunction;
import java.util.function.Supplier;
import java.util.function.ToIntFunction;

/**
 * A call that is refused changes nothing that a later call shows: of two objects that are made alike one has the
 * refused call besides, and all that is asked of them and done with them then is answered alike.
 */
public final class RefusedTest {
    private static final Check CHECK = new Check();
    private static final int NONE = TransitRows.NONE;
    private static final int LAST_DAY = Numbers.LAST_DAY;

    public static void main(String[] args) {
        noSuchPlaces();
        noSuchRoutes();
        noSuchCopies();
        noSuchSlips();
        noSuchLoads();
        noSuchDays();
        whatCanNotBe();
        nothingToChange();
        sending();
        loading();
        slipsInTheWrongState();
        asking();
        full();
        CHECK.end();
    }

    private static int number(boolean answer) {
        return answer ? 1 : 0;
    }

    private static void refused(String call, int want, Supplier<TransitRows> world, ToIntFunction<TransitRows> made) {
        List<Consumer<Log>> probes = List.of(RefusedTest::askAll, RefusedTest::makeMore, RefusedTest::moveOn);
        for (Consumer<Log> probe : probes) {
            TransitRows one = world.get();
            TransitRows twin = world.get();
            CHECK.due(call, made.applyAsInt(one), want);
            CHECK.dueText("after " + call, Log.of(one, probe), Log.of(twin, probe));
        }
    }

    private static void refusedEach(String call, int want, IntFunction<ToIntFunction<TransitRows>> made, int... numbers) {
        for (int number : numbers) {
            String text = call.replace("#", String.valueOf(number));
            refused(text, want, Worlds::busy, made.apply(number));
        }
    }

    /** What an object answers, call by call. */
    private static final class Log {
        final TransitRows rows;
        final List<Integer> answers = new ArrayList<>();

        private Log(TransitRows rows) {
            this.rows = rows;
        }

        static String of(TransitRows rows, Consumer<Log> probe) {
            Log log = new Log(rows);
            probe.accept(log);
            return log.answers.toString();
        }

        void add(int answer) {
            answers.add(answer);
        }

        void add(boolean answer) {
            answers.add(number(answer));
        }
    }

    private static void askAll(Log log) {
        TransitRows rows = log.rows;
        for (int slip = 1; slip <= 10; slip++) {
            for (int what = 0; what <= 6; what++) {
                log.add(rows.slip(slip, what));
            }
        }
        for (int copy = 1; copy <= 11; copy++) {
            log.add(rows.where(copy, 0));
            log.add(rows.where(copy, 1));
            log.add(rows.where(copy, 2));
        }
        for (int load = 1; load <= 5; load++) {
            for (int i = 0; i <= 3; i++) {
                log.add(rows.loaded(load, i));
                log.add(rows.missing(load, i));
            }
        }
        for (int i = 0; i <= 3; i++) {
            log.add(rows.told(i, 0));
            log.add(rows.told(i, 1));
            log.add(rows.bin(0, 1, i));
            log.add(rows.bin(0, 3, i));
            log.add(rows.statistics(0, 1, Math.min(i, 2)));
        }
    }

    /** What was counted, and what each thing was. */
    private static void makeMore(Log log) {
        TransitRows rows = log.rows;
        for (int place = 0; place <= 12; place++) {
            log.add(rows.open(place, true));
        }
        for (int copy = 1; copy <= 12; copy++) {
            log.add(rows.priority(copy, true));
            log.add(rows.floats(copy, true));
        }
        for (int day : new int[] {0, 5, 50, 101, 108, LAST_DAY}) {
            log.add(rows.skip(0, day, true));
            log.add(rows.skip(1, day, false));
        }
        log.add(rows.place());
        log.add(rows.open(4, true));
        log.add(rows.route(1, 0, 127, 0, 1));
        log.add(rows.copy(1));
        log.add(rows.where(11, 0));
        log.add(rows.where(12, 0));
    }

    /** What becomes of the copies from here on. */
    private static void moveOn(Log log) {
        TransitRows rows = log.rows;
        for (int copy = 1; copy <= 11; copy++) {
            log.add(rows.send(copy, 1, 102));
            log.add(rows.send(copy, 2, 103));
        }
        for (int route = 0; route <= 4; route++) {
            log.add(rows.load(route, 101));
            log.add(rows.load(route, 102));
            log.add(rows.load(route, 108));
        }
        log.add(rows.lost(150));
        for (int slip = 1; slip <= 12; slip++) {
            log.add(rows.slip(slip, 2));
            log.add(rows.slip(slip, 4));
            log.add(rows.back(slip));
            log.add(rows.arrive(slip, 1, 160));
        }
        for (int i = 0; i <= 9; i++) {
            log.add(rows.told(i, 0));
            log.add(rows.told(i, 1));
        }
        for (int copy = 1; copy <= 11; copy++) {
            log.add(rows.where(copy, 1));
        }
        log.add(rows.statistics(0, 1, 1));
    }

    private static void noSuchPlaces() {
        int[] none = Numbers.beyond(0, 3);
        refusedEach("open(#, false)", 0, n -> rows -> number(rows.open(n, false)), none);
        refusedEach("open(#, true)", 0, n -> rows -> number(rows.open(n, true)), none);
        refusedEach("route(#, 1, 127, 0, 9)", NONE, n -> rows -> rows.route(n, 1, 127, 0, 9), none);
        refusedEach("route(0, #, 127, 0, 9)", NONE, n -> rows -> rows.route(0, n, 127, 0, 9), none);
        refusedEach("copy(#)", 0, n -> rows -> rows.copy(n), none);
        refusedEach("send(7, #, 100)", 0, n -> rows -> rows.send(7, n, 100), none);
        refusedEach("arrive(2, #, 100)", 0, n -> rows -> rows.arrive(Worlds.LOADED, n, 100), none);
        refusedEach("statistics(#, 1, 3)", NONE, n -> rows -> rows.statistics(n, 1, 3), none);
        refusedEach("statistics(0, #, 3)", NONE, n -> rows -> rows.statistics(0, n, 3), none);
    }

    private static void noSuchRoutes() {
        int[] none = Numbers.beyond(0, 3);
        refusedEach("skip(#, 105, true)", 0, n -> rows -> number(rows.skip(n, 105, true)), none);
        refusedEach("skip(#, 101, false)", 0, n -> rows -> number(rows.skip(n, 101, false)), none);
        refusedEach("load(#, 105)", 0, n -> rows -> rows.load(n, 105), none);
    }

    private static void noSuchCopies() {
        int[] none = Numbers.beyond(1, 10);
        refusedEach("priority(#, true)", 0, n -> rows -> number(rows.priority(n, true)), none);
        refusedEach("floats(#, true)", 0, n -> rows -> number(rows.floats(n, true)), none);
        refusedEach("send(#, 1, 100)", 0, n -> rows -> rows.send(n, 1, 100), none);
        refusedEach("where(#, 1)", NONE, n -> rows -> rows.where(n, 1), none);
    }

    private static void noSuchSlips() {
        int[] none = Numbers.beyond(1, 9);
        refusedEach("back(#)", 0, n -> rows -> rows.back(n), none);
        refusedEach("arrive(#, 1, 110)", 0, n -> rows -> rows.arrive(n, 1, 110), none);
        refusedEach("slip(#, 0)", NONE, n -> rows -> rows.slip(n, 0), none);
    }

    private static void noSuchLoads() {
        int[] none = Numbers.beyond(1, 4);
        refusedEach("loaded(#, 0)", 0, n -> rows -> rows.loaded(n, 0), none);
        refusedEach("missing(#, 0)", 0, n -> rows -> rows.missing(n, 0), none);
    }

    private static void noSuchDays() {
        int[] none = Numbers.NO_DAYS;
        refusedEach("skip(0, #, true)", 0, n -> rows -> number(rows.skip(0, n, true)), none);
        refusedEach("send(7, 1, #)", 0, n -> rows -> rows.send(7, 1, n), none);
        refusedEach("load(0, #)", 0, n -> rows -> rows.load(0, n), none);
        refusedEach("arrive(2, 1, #)", 0, n -> rows -> rows.arrive(Worlds.LOADED, 1, n), none);
        refusedEach("lost(#)", NONE, n -> rows -> rows.lost(n), none);
    }

    private static void whatCanNotBe() {
        refusedEach("route(#, #, 127, 0, 9)", NONE, n -> rows -> rows.route(n, n, 127, 0, 9), 0, 3);
        refusedEach("route(0, 1, #, 0, 9)", NONE, n -> rows -> rows.route(0, 1, n, 0, 9), Numbers.beyond(1, 127));
        refusedEach("route(0, 1, 127, #, 9)", NONE, n -> rows -> rows.route(0, 1, 127, n, 9), Numbers.beyond(0, 30));
        refusedEach("route(0, 1, 127, 0, #)", NONE, n -> rows -> rows.route(0, 1, 127, 0, n), Numbers.beyond(1, 99));
    }

    private static void nothingToChange() {
        refused("skip(0, 101, true)", 0, Worlds::busy, rows -> number(rows.skip(0, 101, true)));
        refused("skip(0, 102, false)", 0, Worlds::busy, rows -> number(rows.skip(0, 102, false)));
        refused("lost(16)", 0, Worlds::busy, rows -> rows.lost(16));
    }

    private static void sending() {
        for (int copy : new int[] {Worlds.WAITING, Worlds.LOADED, Worlds.LOST}) {
            refused("send(" + copy + ", 2, 100): it has a slip", 0, Worlds::busy, rows -> rows.send(copy, 2, 100));
        }
        refused("send(7, 0, 100): it stands there", 0, Worlds::busy, rows -> rows.send(7, 0, 100));
        refused("send(7, 3, 100)", TransitRows.CLOSED, Worlds::busy, rows -> rows.send(7, 3, 100));
        refused("send(7, 2, 100)", TransitRows.NO_ROUTE, Worlds::busy, rows -> rows.send(7, 2, 100));
        refused("send(7, 1, 99999)", TransitRows.NO_ROUTE, Worlds::busy, rows -> rows.send(7, 1, LAST_DAY));
    }

    private static void loading() {
        refused("load(1, 100): not by its mask", 0, Worlds::busy, rows -> rows.load(1, 100));
        refused("load(0, 101): left out", 0, Worlds::busy, rows -> rows.load(0, 101));
        refused("load(3, 101): it had a load", 0, Worlds::busy, rows -> rows.load(3, 101));
        refused("load(3, 100): it had a later load", 0, Worlds::busy, rows -> rows.load(3, 100));
    }

    private static void slipsInTheWrongState() {
        for (int slip : new int[] {Worlds.LOADED, Worlds.ARRIVED, Worlds.LOST, Worlds.WRONG, Worlds.BACK}) {
            refused("back(" + slip + ")", 0, Worlds::busy, rows -> rows.back(slip));
        }
        for (int slip : new int[] {Worlds.WAITING, Worlds.ARRIVED, Worlds.WRONG, Worlds.BACK}) {
            refused("arrive(" + slip + ", 1, 110)", 0, Worlds::busy, rows -> rows.arrive(slip, 1, 110));
            refused("arrive(" + slip + ", 3, 110)", 0, Worlds::busy, rows -> rows.arrive(slip, 3, 110));
        }
        refused("arrive(2, 1, 49)", 0, Worlds::busy, rows -> rows.arrive(Worlds.LOADED, 1, 49));
        refused("arrive(4, 1, 0)", 0, Worlds::busy, rows -> rows.arrive(Worlds.LOST, 1, 0));
    }

    private static void asking() {
        refusedEach("slip(1, #)", NONE, n -> rows -> rows.slip(1, n), Numbers.beyond(0, 6));
        refusedEach("where(1, #)", NONE, n -> rows -> rows.where(1, n), Numbers.beyond(0, 2));
        refusedEach("told(0, #)", NONE, n -> rows -> rows.told(0, n), Numbers.beyond(0, 1));
        refusedEach("told(#, 0)", NONE, n -> rows -> rows.told(n, 0), Numbers.beyond(0, 2));
        refusedEach("statistics(0, 1, #)", NONE, n -> rows -> rows.statistics(0, 1, n), Numbers.beyond(0, 3));
        refusedEach("bin(0, 1, #)", 0, n -> rows -> rows.bin(0, 1, n), Numbers.beyond(0, 1));
        refusedEach("loaded(1, #)", 0, n -> rows -> rows.loaded(1, n), Numbers.beyond(0, 2));
        refusedEach("missing(1, #)", 0, n -> rows -> rows.missing(1, n), Numbers.beyond(0, 0));
        refused("statistics(1, 0, 3)", -9, Worlds::busy, RefusedTest::averageOfNone);
    }

    private static int averageOfNone(TransitRows rows) {
        try {
            return rows.statistics(1, 0, 3);
        } catch (ArithmeticException thrown) {
            return -9;
        }
    }

    private static Supplier<TransitRows> busyAnd(int times, Consumer<TransitRows> more) {
        return () -> {
            TransitRows rows = Worlds.busy();
            for (int i = 0; i < times; i++) {
                more.accept(rows);
            }
            return rows;
        };
    }

    private static TransitRows withSixtyLeftOut() {
        TransitRows rows = Worlds.busy();
        for (int day = 200; day < 257; day++) {
            rows.skip(2, day, true);
        }
        return rows;
    }

    private static TransitRows withSixtyLoads() {
        TransitRows rows = Worlds.busy();
        for (int day = 0; day < 56; day++) {
            rows.load(2, day);
        }
        return rows;
    }

    private static TransitRows withAllSlips() {
        TransitRows rows = Worlds.busy();
        for (int slip = 10; slip <= 150; slip++) {
            rows.send(7, 1, 0);
            rows.back(slip);
        }
        return rows;
    }

    private static void full() {
        refused("the 13th place()", NONE, busyAnd(8, TransitRows::place), TransitRows::place);
        refused("the 41st route", NONE, busyAnd(36, rows -> rows.route(1, 2, 127, 0, 9)),
            rows -> rows.route(0, 1, 127, 0, 9));
        refused("the 61st day left out", 0, RefusedTest::withSixtyLeftOut, rows -> number(rows.skip(0, 105, true)));
        refused("the 61st copy", 0, busyAnd(50, rows -> rows.copy(0)), rows -> rows.copy(1));
        refused("the 151st slip", 0, RefusedTest::withAllSlips, rows -> rows.send(7, 1, 100));
        refused("the 61st load", 0, RefusedTest::withSixtyLoads, rows -> rows.load(0, 105));
    }
}
