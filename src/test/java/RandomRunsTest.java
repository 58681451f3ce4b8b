import java.util.Random;
import java.util.function.BooleanSupplier;
import java.util.function.IntSupplier;

/** All promises at once: runs of 512 calls, the same ones each time, are answered as the model answers them. */
public final class RandomRunsTest {
    private static final int RUNS = 1500;
    private static final int CALLS = 512;
    private static final int KINDS = 19;
    private static final int ROUTE = 2;
    private static final int COPY = 4;
    private static final int SEND = 7;
    private static final int LOAD = 10;
    private static final int ARRIVE = 13;
    private static final int[] ODD = {-1, 0, 1, 2, 7, 11, 12, 13, 30, 31, 39, 40, 59, 60, 61, 99, 100, 127, 128, 149,
        150, 151, 99998, 99999, 100000, -2, Integer.MAX_VALUE, Integer.MAX_VALUE - 1, Integer.MIN_VALUE};

    private final Random random;
    private final TransitRows rows = new TransitRows();
    private final Model model = new Model();
    private final int places;
    private final int routes;
    private final int copies;
    private final int oddOneIn;
    private final int favourite;
    private int today;
    private String fault = null;

    private RandomRunsTest(int run) {
        random = new Random(run);
        places = 2 + random.nextInt(random.nextBoolean() ? 3 : 12);
        routes = 1 + random.nextInt(random.nextBoolean() ? 6 : 42);
        copies = 1 + random.nextInt(random.nextBoolean() ? 12 : 62);
        oddOneIn = random.nextBoolean() ? 20 : 300;
        favourite = random.nextInt(KINDS);
        today = random.nextInt(8) == 0 ? 99900 : random.nextInt(30);
    }

    public static void main(String[] args) {
        int wrong = 0;
        for (int run = 0; run < RUNS && wrong < 10; run++) {
            String fault = new RandomRunsTest(run).firstFault();
            if (fault != null) {
                wrong++;
                System.out.println("run " + run + ", " + fault);
            }
        }
        if (wrong > 0) {
            System.exit(1);
        }
    }

    private String firstFault() {
        for (int call = 0; call < CALLS && fault == null; call++) {
            makeCall(kindOf(call));
        }
        return fault;
    }

    private int kindOf(int call) {
        if (call < places) {
            return 0;
        }
        if (call < places + routes) {
            return ROUTE;
        }
        return call < places + routes + copies ? COPY : anyKind();
    }

    /** Each run has a favourite, so that every limit is met in some of them. */
    private int anyKind() {
        int draw = random.nextInt(40);
        if (draw < 8) {
            return favourite;
        }
        if (draw < 16) {
            return SEND;
        }
        if (draw < 19) {
            return LOAD;
        }
        return draw < 22 ? ARRIVE : random.nextInt(KINDS);
    }

    private void makeCall(int kind) {
        switch (kind) {
            case 0: same("place()", rows::place, model::place); break;
            case 1: open(number(places + 1), on()); break;
            case ROUTE: route(number(places), number(places), mask(), duration(), room()); break;
            case 3: skip(number(routes), day(), on()); break;
            case COPY: copy(number(places)); break;
            case 5: priority(number(copies + 2), on()); break;
            case 6: floats(number(copies + 2), on()); break;
            case SEND: send(number(copies + 2), number(places), day()); break;
            case 8: back(slipNumber()); break;
            case 9: bin(number(places), number(places), number(5)); break;
            case LOAD: load(number(routes), day()); break;
            case 11: loaded(number(model.loads() + 2), number(5)); break;
            case 12: missing(number(model.loads() + 2), number(5)); break;
            case ARRIVE: arrive(slipNumber(), day()); break;
            case 14: lost(day() + (random.nextBoolean() ? 0 : random.nextInt(60))); break;
            case 15: slip(slipNumber(), number(8)); break;
            case 16: where(number(copies + 2), number(4)); break;
            case 17: statistics(number(places), number(places), number(5)); break;
            default: told(number(random.nextBoolean() ? 8 : 102), number(3)); break;
        }
    }

    private int number(int bound) {
        return random.nextInt(oddOneIn) == 0 ? ODD[random.nextInt(ODD.length)] : random.nextInt(bound);
    }

    private boolean on() {
        return random.nextInt(3) > 0;
    }

    private int mask() {
        return random.nextInt(3) == 0 ? 1 << random.nextInt(7) : number(128);
    }

    private int duration() {
        return random.nextBoolean() ? number(5) : number(31);
    }

    private int room() {
        return random.nextBoolean() ? 1 + number(3) : number(100);
    }

    private int day() {
        if (random.nextInt(6) == 0) {
            today += random.nextInt(6);
        }
        return random.nextInt(oddOneIn) == 0 ? number(100001) : Math.max(0, today + random.nextInt(9) - 2);
    }

    private int slipNumber() {
        return random.nextInt(3) == 0 ? number(model.slips() + 2) : model.slips() - number(12);
    }

    private void open(int place, boolean on) {
        same("open(" + place + ", " + on + ")", () -> rows.open(place, on), () -> model.open(place, on));
    }

    private void route(int from, int to, int mask, int duration, int room) {
        same("route(" + from + ", " + to + ", " + mask + ", " + duration + ", " + room + ")",
            () -> rows.route(from, to, mask, duration, room), () -> model.route(from, to, mask, duration, room));
    }

    private void skip(int route, int day, boolean out) {
        same("skip(" + route + ", " + day + ", " + out + ")",
            () -> rows.skip(route, day, out), () -> model.skip(route, day, out));
    }

    private void copy(int home) {
        same("copy(" + home + ")", () -> rows.copy(home), () -> model.copy(home));
    }

    private void priority(int copy, boolean on) {
        same("priority(" + copy + ", " + on + ")", () -> rows.priority(copy, on), () -> model.priority(copy, on));
    }

    private void floats(int copy, boolean on) {
        same("floats(" + copy + ", " + on + ")", () -> rows.floats(copy, on), () -> model.floats(copy, on));
    }

    private void send(int copy, int to, int day) {
        same("send(" + copy + ", " + to + ", " + day + ")",
            () -> rows.send(copy, to, day), () -> model.send(copy, to, day));
    }

    private void back(int slip) {
        same("back(" + slip + ")", () -> rows.back(slip), () -> model.back(slip));
    }

    private void bin(int from, int to, int i) {
        same("bin(" + from + ", " + to + ", " + i + ")", () -> rows.bin(from, to, i), () -> model.bin(from, to, i));
    }

    private void load(int route, int day) {
        same("load(" + route + ", " + day + ")", () -> rows.load(route, day), () -> model.load(route, day));
    }

    private void loaded(int load, int i) {
        same("loaded(" + load + ", " + i + ")", () -> rows.loaded(load, i), () -> model.loaded(load, i));
    }

    private void missing(int load, int i) {
        same("missing(" + load + ", " + i + ")", () -> rows.missing(load, i), () -> model.missing(load, i));
    }

    private void arrive(int slip, int day) {
        int place = random.nextBoolean() ? model.endOf(slip) : number(places);
        same("arrive(" + slip + ", " + place + ", " + day + ")",
            () -> rows.arrive(slip, place, day), () -> model.arrive(slip, place, day));
    }

    private void lost(int day) {
        same("lost(" + day + ")", () -> rows.lost(day), () -> model.lost(day));
    }

    private void slip(int slip, int what) {
        same("slip(" + slip + ", " + what + ")", () -> rows.slip(slip, what), () -> model.slip(slip, what));
    }

    private void where(int copy, int what) {
        same("where(" + copy + ", " + what + ")", () -> rows.where(copy, what), () -> model.where(copy, what));
    }

    private void statistics(int from, int to, int what) {
        same("statistics(" + from + ", " + to + ", " + what + ")",
            () -> rows.statistics(from, to, what), () -> model.statistics(from, to, what));
    }

    private void told(int i, int what) {
        same("told(" + i + ", " + what + ")", () -> rows.told(i, what), () -> model.told(i, what));
    }

    private void same(String call, BooleanSupplier got, BooleanSupplier want) {
        same(call, () -> got.getAsBoolean() ? 1 : 0, () -> want.getAsBoolean() ? 1 : 0);
    }

    private void same(String call, IntSupplier got, IntSupplier want) {
        String answer = answerOf(got);
        String due = answerOf(want);
        if (!answer.equals(due)) {
            fault = call + " answered " + answer + ", due is " + due;
        }
    }

    private static String answerOf(IntSupplier call) {
        try {
            return String.valueOf(call.getAsInt());
        } catch (RuntimeException thrown) {
            return "throws." + thrown.getClass().getSimpleName();
        }
    }
}
