/**
 * Copies moved among places by routes that run on days of the week.
 *
 * All rows are made once, with the object, and no call makes another one. Copies, slips and loads
 * count from 1, so that row 0 of theirs stays empty and a number is its own index.
 */
public final class TransitRows {
    public static final int NONE = -1;
    public static final int CLOSED = -2;
    public static final int NO_ROUTE = -3;

    private static final int LAST_DAY = 99999;
    private static final int DAYS_OF_WEEK = 7;
    private static final int EVERY_DAY = 127;
    private static final int LONGEST_DURATION = 30;
    private static final int LARGEST_ROOM = 99;
    private static final int DAYS_UNTIL_LOST = 14;

    private static final int MOST_PLACES = 12;
    private static final int MOST_ROUTES = 40;
    private static final int MOST_LEFT_OUT = 60;
    private static final int MOST_COPIES = 60;
    private static final int MOST_SLIPS = 150;
    private static final int MOST_LOADS = 60;
    private static final int MOST_TOLD = 100;

    private static final int STATE_WAITING = 0;
    private static final int STATE_LOADED = 1;
    private static final int STATE_ARRIVED = 2;
    private static final int STATE_LOST = 3;
    private static final int STATE_WRONG = 4;
    private static final int STATE_BACK = 5;

    private static final int TOLD_CLOSED = 1;
    private static final int TOLD_NO_ROOM = 2;

    private final Places places;
    private final Routes routes;
    private final Copies copies;
    private final Slips slips;
    private final Loads loads;
    private final Tellings tellings;
    private final int[] queue;
    private int queued;

    public TransitRows() {
        places = new Places();
        routes = new Routes();
        copies = new Copies();
        slips = new Slips();
        loads = new Loads();
        tellings = new Tellings();
        queue = new int[MOST_SLIPS];
        queued = 0;
    }

    public int place() {
        return places.add();
    }

    public boolean open(int place, boolean on) {
        if (!places.has(place)) {
            return false;
        }
        boolean before = places.isOpen[place];
        places.isOpen[place] = on;
        return before;
    }

    public int route(int from, int to, int mask, int duration, int room) {
        if (!places.has(from) || !places.has(to) || from == to) {
            return NONE;
        }
        if (mask < 1 || mask > EVERY_DAY || duration < 0 || duration > LONGEST_DURATION) {
            return NONE;
        }
        if (room < 1 || room > LARGEST_ROOM) {
            return NONE;
        }
        return routes.add(from, to, mask, duration, room);
    }

    public boolean skip(int route, int day, boolean out) {
        if (!routes.has(route) || !isDay(day)) {
            return false;
        }
        return out ? routes.leftOut.add(route, day) : routes.leftOut.remove(route, day);
    }

    public int copy(int home) {
        if (!places.has(home)) {
            return 0;
        }
        return copies.add(home);
    }

    public boolean priority(int copy, boolean on) {
        if (!copies.has(copy)) {
            return false;
        }
        boolean before = copies.isPriority[copy];
        copies.isPriority[copy] = on;
        return before;
    }

    public boolean floats(int copy, boolean on) {
        if (!copies.has(copy)) {
            return false;
        }
        boolean before = copies.isFloating[copy];
        copies.isFloating[copy] = on;
        return before;
    }

    public int send(int copy, int to, int day) {
        if (!copies.has(copy) || !places.has(to) || !isDay(day)) {
            return 0;
        }
        if (copies.slip[copy] != 0 || copies.stand[copy] == to || slips.count == MOST_SLIPS) {
            return 0;
        }
        if (!places.isOpen[to]) {
            return CLOSED;
        }
        int earliest = copies.isPriority[copy] ? day : day + 1;
        int route = routes.findQuickest(copies.stand[copy], to, earliest);
        if (route == NONE) {
            return NO_ROUTE;
        }
        int slip = slips.add(copy, route, day, routes.firstRun(route, earliest));
        copies.slip[copy] = slip;
        return slip;
    }

    public int back(int slip) {
        if (!slips.has(slip) || slips.state[slip] != STATE_WAITING) {
            return 0;
        }
        slips.state[slip] = STATE_BACK;
        copies.slip[slips.copy[slip]] = 0;
        return 1;
    }

    public int bin(int from, int to, int i) {
        queueBin(from, to);
        return i >= 0 && i < queued ? queue[i] : 0;
    }

    public int load(int route, int day) {
        if (!routes.has(route) || !isDay(day) || !routes.runsOn(route, day)) {
            return 0;
        }
        if (routes.lastLoad[route] >= day || loads.count == MOST_LOADS) {
            return 0;
        }
        routes.lastLoad[route] = day;
        int number = loads.begin();
        queueDue(route, day);
        if (places.isOpen[routes.to[route]]) {
            int taken = Math.min(queued, routes.room[route]);
            takeFromQueue(taken, day);
            tellQueue(taken, TOLD_NO_ROOM);
        } else {
            tellQueue(0, TOLD_CLOSED);
        }
        return number;
    }

    public int loaded(int load, int i) {
        if (!loads.has(load) || i < 0 || i >= loads.size(load)) {
            return 0;
        }
        return loads.slipAt(load, i);
    }

    public int missing(int load, int i) {
        if (!loads.has(load) || i < 0) {
            return 0;
        }
        int before = 0;
        for (int k = 0; k < loads.size(load); k++) {
            int slip = loads.slipAt(load, k);
            if (slips.isUnderWay(slip)) {
                if (before == i) {
                    return slip;
                }
                before++;
            }
        }
        return 0;
    }

    public int arrive(int slip, int place, int day) {
        if (!slips.has(slip) || !places.has(place) || !isDay(day)) {
            return 0;
        }
        if (!slips.isUnderWay(slip) || day < slips.goes[slip]) {
            return 0;
        }
        int copy = slips.copy[slip];
        boolean right = routes.to[slips.route[slip]] == place;
        slips.state[slip] = right ? STATE_ARRIVED : STATE_WRONG;
        slips.came[slip] = day;
        copies.slip[copy] = 0;
        copies.stand[copy] = place;
        if (right && copies.isFloating[copy]) {
            copies.home[copy] = place;
        }
        return right ? 1 : -1;
    }

    public int lost(int day) {
        if (!isDay(day)) {
            return NONE;
        }
        int many = 0;
        for (int slip = 1; slip <= slips.count; slip++) {
            if (slips.state[slip] == STATE_LOADED && day - dueDay(slip) > DAYS_UNTIL_LOST) {
                slips.state[slip] = STATE_LOST;
                many++;
            }
        }
        return many;
    }

    public int slip(int slip, int what) {
        if (!slips.has(slip)) {
            return NONE;
        }
        switch (what) {
            case 0:
                return slips.copy[slip];
            case 1:
                return slips.route[slip];
            case 2:
                return slips.state[slip];
            case 3:
                return slips.sent[slip];
            case 4:
                return slips.goes[slip];
            case 5:
                return dueDay(slip);
            case 6:
                return slips.came[slip];
            default:
                return NONE;
        }
    }

    public int where(int copy, int what) {
        if (!copies.has(copy)) {
            return NONE;
        }
        switch (what) {
            case 0:
                return copies.slip[copy] == 0 ? copies.stand[copy] : NONE;
            case 1:
                return copies.home[copy];
            case 2:
                return copies.slip[copy];
            default:
                return NONE;
        }
    }

    public int statistics(int from, int to, int what) throws ArithmeticException {
        if (!places.has(from) || !places.has(to)) {
            return NONE;
        }
        int many = 0;
        int days = 0;
        int most = NONE;
        for (int slip = 1; slip <= slips.count; slip++) {
            if (slips.state[slip] == STATE_ARRIVED && routes.joins(slips.route[slip], from, to)) {
                int taken = slips.came[slip] - slips.sent[slip];
                many++;
                days += taken;
                most = Math.max(most, taken);
            }
        }
        switch (what) {
            case 0:
                return many;
            case 1:
                return days;
            case 2:
                return most;
            case 3:
                return average(days, many);
            default:
                return NONE;
        }
    }

    public int told(int i, int what) {
        if (!tellings.has(i)) {
            return NONE;
        }
        switch (what) {
            case 0:
                return tellings.reason[i];
            case 1:
                return tellings.slip[i];
            default:
                return NONE;
        }
    }

    private static boolean isDay(int day) {
        return day >= 0 && day <= LAST_DAY;
    }

    private static int average(int days, int many) {
        if (many == 0) {
            throw new ArithmeticException("no slip arrived");
        }
        return days / many;
    }

    private int dueDay(int slip) {
        return slips.goes[slip] + routes.duration[slips.route[slip]];
    }

    private void queueBin(int from, int to) {
        queued = 0;
        for (int slip = 1; slip <= slips.count; slip++) {
            if (slips.state[slip] == STATE_WAITING && routes.joins(slips.route[slip], from, to)) {
                enqueue(slip);
            }
        }
    }

    private void queueDue(int route, int day) {
        queued = 0;
        for (int slip = 1; slip <= slips.count; slip++) {
            boolean waits = slips.state[slip] == STATE_WAITING && slips.route[slip] == route;
            if (waits && slips.goes[slip] <= day) {
                enqueue(slip);
            }
        }
    }

    private void enqueue(int slip) {
        int at = queued;
        while (at > 0 && isBefore(slip, queue[at - 1])) {
            queue[at] = queue[at - 1];
            at--;
        }
        queue[at] = slip;
        queued++;
    }

    private boolean isBefore(int slip, int other) {
        boolean priority = copies.isPriority[slips.copy[slip]];
        if (priority != copies.isPriority[slips.copy[other]]) {
            return priority;
        }
        if (slips.goes[slip] != slips.goes[other]) {
            return slips.goes[slip] < slips.goes[other];
        }
        return slip < other;
    }

    private void takeFromQueue(int many, int day) {
        for (int k = 0; k < many; k++) {
            int slip = queue[k];
            slips.state[slip] = STATE_LOADED;
            slips.goes[slip] = day;
            loads.put(slip);
        }
    }

    private void tellQueue(int first, int reason) {
        for (int k = first; k < queued; k++) {
            tellings.add(reason, queue[k]);
        }
    }

    private static final class Places {
        final boolean[] isOpen = new boolean[MOST_PLACES];
        int count;

        boolean has(int place) {
            return place >= 0 && place < count;
        }

        int add() {
            if (count == MOST_PLACES) {
                return NONE;
            }
            isOpen[count] = true;
            return count++;
        }
    }

    /** The days that were told to be left out, of all routes together. */
    private static final class LeftOut {
        final int[] route = new int[MOST_LEFT_OUT];
        final int[] day = new int[MOST_LEFT_OUT];
        int count;

        int find(int ofRoute, int onDay) {
            for (int k = 0; k < count; k++) {
                if (route[k] == ofRoute && day[k] == onDay) {
                    return k;
                }
            }
            return NONE;
        }

        boolean add(int ofRoute, int onDay) {
            if (count == MOST_LEFT_OUT || find(ofRoute, onDay) != NONE) {
                return false;
            }
            route[count] = ofRoute;
            day[count] = onDay;
            count++;
            return true;
        }

        boolean remove(int ofRoute, int onDay) {
            int at = find(ofRoute, onDay);
            if (at == NONE) {
                return false;
            }
            // No answer tells the order of these rows, so the last one may fill the gap.
            count--;
            route[at] = route[count];
            day[at] = day[count];
            return true;
        }
    }

    private static final class Routes {
        final int[] from = new int[MOST_ROUTES];
        final int[] to = new int[MOST_ROUTES];
        final int[] mask = new int[MOST_ROUTES];
        final int[] duration = new int[MOST_ROUTES];
        final int[] room = new int[MOST_ROUTES];
        final int[] lastLoad = new int[MOST_ROUTES];
        final LeftOut leftOut = new LeftOut();
        int count;

        boolean has(int route) {
            return route >= 0 && route < count;
        }

        int add(int start, int end, int days, int length, int space) {
            if (count == MOST_ROUTES) {
                return NONE;
            }
            from[count] = start;
            to[count] = end;
            mask[count] = days;
            duration[count] = length;
            room[count] = space;
            lastLoad[count] = NONE;
            return count++;
        }

        boolean joins(int route, int start, int end) {
            return from[route] == start && to[route] == end;
        }

        boolean runsOn(int route, int day) {
            boolean byMask = (mask[route] >> (day % DAYS_OF_WEEK) & 1) == 1;
            return byMask && leftOut.find(route, day) == NONE;
        }

        int firstRun(int route, int earliest) {
            for (int day = earliest; day <= LAST_DAY; day++) {
                if (runsOn(route, day)) {
                    return day;
                }
            }
            return NONE;
        }

        int findQuickest(int start, int end, int earliest) {
            int best = NONE;
            int bestDay = 0;
            for (int route = 0; route < count; route++) {
                int goes = joins(route, start, end) ? firstRun(route, earliest) : NONE;
                if (goes != NONE && (best == NONE || goes + duration[route] < bestDay)) {
                    best = route;
                    bestDay = goes + duration[route];
                }
            }
            return best;
        }
    }

    private static final class Copies {
        final int[] home = new int[MOST_COPIES + 1];
        /** Where the copy stands or, while it has a slip, where it was sent from. */
        final int[] stand = new int[MOST_COPIES + 1];
        final int[] slip = new int[MOST_COPIES + 1];
        final boolean[] isPriority = new boolean[MOST_COPIES + 1];
        final boolean[] isFloating = new boolean[MOST_COPIES + 1];
        int count;

        boolean has(int copy) {
            return copy >= 1 && copy <= count;
        }

        int add(int place) {
            if (count == MOST_COPIES) {
                return 0;
            }
            count++;
            home[count] = place;
            stand[count] = place;
            return count;
        }
    }

    private static final class Slips {
        final int[] copy = new int[MOST_SLIPS + 1];
        final int[] route = new int[MOST_SLIPS + 1];
        final int[] state = new int[MOST_SLIPS + 1];
        final int[] sent = new int[MOST_SLIPS + 1];
        final int[] goes = new int[MOST_SLIPS + 1];
        final int[] came = new int[MOST_SLIPS + 1];
        int count;

        boolean has(int slip) {
            return slip >= 1 && slip <= count;
        }

        /** Only for a caller that has seen that there are not MOST_SLIPS yet. */
        int add(int ofCopy, int byRoute, int sentDay, int dayToGo) {
            count++;
            copy[count] = ofCopy;
            route[count] = byRoute;
            state[count] = STATE_WAITING;
            sent[count] = sentDay;
            goes[count] = dayToGo;
            came[count] = NONE;
            return count;
        }

        boolean isUnderWay(int slip) {
            return state[slip] == STATE_LOADED || state[slip] == STATE_LOST;
        }
    }

    /** A slip is loaded once at most, so the slips of all loads stand behind one another in one row. */
    private static final class Loads {
        final int[] end = new int[MOST_LOADS + 1];
        final int[] cargo = new int[MOST_SLIPS];
        int count;

        boolean has(int load) {
            return load >= 1 && load <= count;
        }

        /** Only for a caller that has seen that there are not MOST_LOADS yet. */
        int begin() {
            count++;
            end[count] = end[count - 1];
            return count;
        }

        /** Puts a slip into the load that was begun last. */
        void put(int slip) {
            cargo[end[count]] = slip;
            end[count]++;
        }

        int size(int load) {
            return end[load] - end[load - 1];
        }

        int slipAt(int load, int i) {
            return cargo[end[load - 1] + i];
        }
    }

    private static final class Tellings {
        final int[] reason = new int[MOST_TOLD];
        final int[] slip = new int[MOST_TOLD];
        int count;

        boolean has(int i) {
            return i >= 0 && i < count;
        }

        void add(int why, int ofSlip) {
            if (count < MOST_TOLD) {
                reason[count] = why;
                slip[count] = ofSlip;
                count++;
            }
        }
    }
}
