import java.util.ArrayList;
import java.util.Comparator;
import java.util.HashSet;
import java.util.List;
import java.util.OptionalInt;
import java.util.Set;
import java.util.stream.Collectors;
import java.util.stream.IntStream;
import java.util.stream.Stream;

/** The document once more, with the Java library and without a thought for room: what RandomRunsTest compares with. */
final class Model {
    enum State { WAITING, LOADED, ARRIVED, LOST, WRONG, BACK }

    record Route(int number, int from, int to, int mask, int duration, int room) { }

    record LeftOut(int route, int day) { }

    record Told(int reason, Slip slip) { }

    static final class Copy {
        int home;
        Integer stands;
        boolean priority;
        boolean floats;
        Slip slip;
    }

    static final class Slip {
        int number;
        Copy copy;
        int copyNumber;
        Route route;
        State state = State.WAITING;
        int sent;
        int go;
        int came = -1;

        int comes() {
            return go + route.duration;
        }

        boolean isUnderWay() {
            return state == State.LOADED || state == State.LOST;
        }
    }

    record Load(int route, int day, List<Slip> slips) { }

    private final List<Boolean> places = new ArrayList<>();
    private final List<Route> routes = new ArrayList<>();
    private final Set<LeftOut> leftOut = new HashSet<>();
    private final List<Copy> copies = new ArrayList<>();
    private final List<Slip> slips = new ArrayList<>();
    private final List<Load> loads = new ArrayList<>();
    private final List<Told> told = new ArrayList<>();

    private static <T> T at(List<T> list, int index) {
        return index >= 0 && index < list.size() ? list.get(index) : null;
    }

    private static boolean isDay(int day) {
        return 0 <= day && day <= 99999;
    }

    private boolean runs(Route route, int day) {
        return (route.mask & 1 << day % 7) != 0 && !leftOut.contains(new LeftOut(route.number, day));
    }

    private static Stream<Slip> ordered(Stream<Slip> some) {
        return some.sorted(Comparator.comparing((Slip s) -> !s.copy.priority)
            .thenComparing(s -> s.go).thenComparing(s -> s.number));
    }

    int slips() {
        return slips.size();
    }

    int loads() {
        return loads.size();
    }

    /** Where a slip should come to; place 0 if there is none such. */
    int endOf(int number) {
        Slip slip = at(slips, number - 1);
        return slip == null ? 0 : slip.route.to;
    }

    int place() {
        return places.size() < 12 && places.add(true) ? places.size() - 1 : -1;
    }

    boolean open(int place, boolean on) {
        return at(places, place) != null && places.set(place, on);
    }

    int route(int from, int to, int mask, int duration, int room) {
        boolean can = at(places, from) != null && at(places, to) != null && from != to
            && mask >= 1 && mask <= 127 && duration >= 0 && duration <= 30 && room >= 1 && room <= 99;
        if (!can || routes.size() == 40) {
            return -1;
        }
        routes.add(new Route(routes.size(), from, to, mask, duration, room));
        return routes.size() - 1;
    }

    boolean skip(int route, int day, boolean out) {
        if (at(routes, route) == null || !isDay(day)) {
            return false;
        }
        LeftOut that = new LeftOut(route, day);
        return out ? leftOut.size() < 60 && leftOut.add(that) : leftOut.remove(that);
    }

    int copy(int home) {
        if (at(places, home) == null || copies.size() == 60) {
            return 0;
        }
        Copy copy = new Copy();
        copy.home = home;
        copy.stands = home;
        copies.add(copy);
        return copies.size();
    }

    boolean priority(int number, boolean on) {
        Copy copy = at(copies, number - 1);
        boolean before = copy != null && copy.priority;
        if (copy != null) {
            copy.priority = on;
        }
        return before;
    }

    boolean floats(int number, boolean on) {
        Copy copy = at(copies, number - 1);
        boolean before = copy != null && copy.floats;
        if (copy != null) {
            copy.floats = on;
        }
        return before;
    }

    int send(int number, int to, int day) {
        Copy copy = at(copies, number - 1);
        if (copy == null || at(places, to) == null || !isDay(day) || copy.slip != null || copy.stands == to
            || slips.size() == 150) {
            return 0;
        }
        if (!places.get(to)) {
            return -2;
        }
        int first = copy.priority ? day : day + 1;
        Slip best = null;
        for (Route route : routes) {
            OptionalInt go = IntStream.rangeClosed(first, 99999).filter(d -> runs(route, d)).findFirst();
            if (route.from == copy.stands && route.to == to && go.isPresent()
                && (best == null || go.getAsInt() + route.duration < best.comes())) {
                best = new Slip();
                best.route = route;
                best.go = go.getAsInt();
            }
        }
        if (best == null) {
            return -3;
        }
        best.copy = copy;
        best.copyNumber = number;
        best.sent = day;
        slips.add(best);
        best.number = slips.size();
        copy.slip = best;
        copy.stands = null;
        return best.number;
    }

    int back(int number) {
        Slip slip = at(slips, number - 1);
        if (slip == null || slip.state != State.WAITING) {
            return 0;
        }
        slip.state = State.BACK;
        slip.copy.slip = null;
        slip.copy.stands = slip.route.from;
        return 1;
    }

    int bin(int from, int to, int i) {
        List<Slip> found = ordered(slips.stream().filter(s -> s.state == State.WAITING
            && s.route.from == from && s.route.to == to)).collect(Collectors.toList());
        return at(found, i) == null ? 0 : found.get(i).number;
    }

    int load(int number, int day) {
        Route route = at(routes, number);
        if (route == null || !isDay(day) || !runs(route, day) || loads.size() == 60
            || loads.stream().anyMatch(l -> l.route == number && l.day >= day)) {
            return 0;
        }
        Load load = new Load(number, day, new ArrayList<>());
        loads.add(load);
        List<Slip> due = ordered(slips.stream().filter(s -> s.state == State.WAITING && s.route == route
            && s.go <= day)).collect(Collectors.toList());
        for (Slip slip : due) {
            if (!places.get(route.to)) {
                told.add(new Told(1, slip));
            } else if (load.slips.size() == route.room) {
                told.add(new Told(2, slip));
            } else {
                load.slips.add(slip);
                slip.state = State.LOADED;
            }
        }
        load.slips.forEach(s -> s.go = day);
        return loads.size();
    }

    int loaded(int number, int i) {
        Load load = at(loads, number - 1);
        return load == null || at(load.slips, i) == null ? 0 : load.slips.get(i).number;
    }

    int missing(int number, int i) {
        Load load = at(loads, number - 1);
        if (load == null) {
            return 0;
        }
        List<Slip> found = load.slips.stream().filter(Slip::isUnderWay).collect(Collectors.toList());
        return at(found, i) == null ? 0 : found.get(i).number;
    }

    int arrive(int number, int place, int day) {
        Slip slip = at(slips, number - 1);
        if (slip == null || at(places, place) == null || !isDay(day) || !slip.isUnderWay() || day < slip.go) {
            return 0;
        }
        slip.came = day;
        slip.copy.slip = null;
        slip.copy.stands = place;
        if (place != slip.route.to) {
            slip.state = State.WRONG;
            return -1;
        }
        slip.state = State.ARRIVED;
        slip.copy.home = slip.copy.floats ? place : slip.copy.home;
        return 1;
    }

    int lost(int day) {
        if (!isDay(day)) {
            return -1;
        }
        List<Slip> late = slips.stream().filter(s -> s.state == State.LOADED && s.comes() < day - 14)
            .collect(Collectors.toList());
        late.forEach(s -> s.state = State.LOST);
        return late.size();
    }

    int slip(int number, int what) {
        Slip slip = at(slips, number - 1);
        if (slip == null || what < 0 || what > 6) {
            return -1;
        }
        return new int[] {slip.copyNumber, slip.route.number, slip.state.ordinal(), slip.sent, slip.go, slip.comes(),
            slip.came}[what];
    }

    int where(int number, int what) {
        Copy copy = at(copies, number - 1);
        if (copy == null || what < 0 || what > 2) {
            return -1;
        }
        return new int[] {copy.stands == null ? -1 : copy.stands, copy.home,
            copy.slip == null ? 0 : copy.slip.number}[what];
    }

    int statistics(int from, int to, int what) {
        if (at(places, from) == null || at(places, to) == null || what < 0 || what > 3) {
            return -1;
        }
        int[] days = slips.stream().filter(s -> s.state == State.ARRIVED && s.route.from == from && s.route.to == to)
            .mapToInt(s -> s.came - s.sent).toArray();
        if (what == 3 && days.length == 0) {
            throw new ArithmeticException();
        }
        int sum = IntStream.of(days).sum();
        int most = IntStream.of(days).max().orElse(-1);
        return new int[] {days.length, sum, most, sum / Math.max(1, days.length)}[what];
    }

    int told(int i, int what) {
        if (i > 99 || at(told, i) == null || what < 0 || what > 1) {
            return -1;
        }
        return what == 0 ? told.get(i).reason : told.get(i).slip.number;
    }
}
