import java.util.NoSuchElementException;

/**
 * A planner of departures: the trips of one day, changes, walks, delays and plans of rides.
 * The document (DOC.md) tells what every call answers; words in capitals there are used here.
 */
public final class DayProfiles {
    public static final int NONE = -1;

    private static final int MISSING = -2;
    private static final int BARRED = -3;
    private static final int NO_MINUTES = -1000;
    private static final int NO_WAY_WITH_FEWER = 5000;

    private static final int MOST_BYTES = 900;
    private static final int MOST_STOPS = 10;
    private static final int MOST_WALKS = 12;
    private static final int MOST_TRIPS = 20;
    private static final int MOST_RIDES = 60;
    private static final int MOST_CHANGES = 4;
    private static final int MOST_LEGS = 6;
    private static final int MOST_UNDONE = 20;
    private static final int LAST_MINUTE = 1439;
    private static final int LAST_LIMIT = 2000;
    private static final int LEAST_DELAY = -60;
    private static final int GREATEST_DELAY = 240;

    /** Far above every minute and every WALK, and small enough that a few of them can be added. */
    private static final int NEVER = 1000000;

    private final byte[] tape = new byte[MOST_BYTES];
    private final Reader reader = new Reader();
    private final Times told;
    private final Times now;
    private final Times trial;
    private final UndoLog undoLog = new UndoLog();
    private final Outlook outlook = new Outlook();
    private final Profile list = new Profile();
    private final Legs unfolded = new Legs();
    private final Legs planned = new Legs();
    private final Check check = new Check();
    private final int[] tally = new int[MOST_STOPS];
    private Network net;
    private Network spareNet;
    private int taped;

    public DayProfiles() {
        Network empty = new Network();
        net = empty;
        spareNet = new Network();
        told = new Times(empty);
        now = new Times(empty);
        trial = new Times(empty);
    }

    // ---- the text ----

    public int feed(int a, int b, int c, int d, int e) {
        if (taped + 20 > MOST_BYTES) {
            return NONE;
        }
        append(a);
        append(b);
        append(c);
        append(d);
        append(e);
        return taped;
    }

    private void append(int number) {
        for (int shift = 24; shift >= 0; shift -= 8) {
            if (taped < MOST_BYTES) {
                tape[taped] = (byte) (number >> shift);
                taped++;
            }
        }
    }

    public int text(int n) {
        if (n < 0 || n > taped) {
            return MISSING;
        }
        taped = 0;
        // Read into the spare one, so that a FAULT leaves all else as it was.
        if (!reader.read(tape, n, spareNet)) {
            return NONE;
        }
        Network old = net;
        net = spareNet;
        spareNet = old;
        told.begin(net);
        now.begin(net);
        undoLog.clear();
        planned.clear();
        outlook.forget();
        return reader.lines;
    }

    public int fault(int what) {
        if (what == 0) {
            return reader.fault;
        }
        return what == 1 ? reader.faultPlace : NONE;
    }

    public int ride(int i, int what) throws IndexOutOfBoundsException, NoSuchElementException {
        if (!isRide(i)) {
            throw new IndexOutOfBoundsException("no such ride");
        }
        switch (what) {
            case 0:
                return net.tripOf[i];
            case 1:
                return net.from[i];
            case 2:
                return net.to[i];
            case 3:
                return net.leaves[i];
            case 4:
                return net.comes[i];
            case 5:
                return now.leave[i];
            case 6:
                return now.come[i];
            case 7:
                return now.isCancelled(i) ? 1 : 0;
            case 8:
                return net.goesOn(i) ? i + 1 : MISSING;
            default:
                throw new NoSuchElementException("no such what");
        }
    }

    public int walk(int a, int b) {
        if (!isStop(a) || !isStop(b)) {
            return NONE;
        }
        return orMissing(net.walking[a][b]);
    }

    public int change(int stop) {
        return isStop(stop) ? net.changes[stop] : NONE;
    }

    // ---- delays, cancelled rides ----

    public int delay(int trip, int j, int minutes) {
        if (!isRideOf(trip, j) || !within(minutes, LEAST_DELAY, GREATEST_DELAY)) {
            return NONE;
        }
        int first = net.firstRide[trip] + j;
        int end = net.firstRide[trip + 1];
        if (now.refuses(first, minutes)) {
            return MISSING;
        }
        int others = 0;
        for (int r = first; r < end; r++) {
            if (now.minutesLate(r) != minutes) {
                others++;
            }
        }
        if (others > 0) {
            undoLog.keep(now);
            for (int r = first; r < end; r++) {
                now.setMinutesLate(r, minutes);
            }
            timesChanged();
        }
        return others;
    }

    public int cancel(int trip, int j, int n, boolean off) {
        if (!isRideOf(trip, j) || n < 1) {
            return NONE;
        }
        int first = net.firstRide[trip] + j;
        int end = first + Math.min(n, net.firstRide[trip + 1] - first);
        int others = 0;
        for (int r = first; r < end; r++) {
            if (now.isCancelled(r) != off) {
                others++;
            }
        }
        if (others > 0) {
            undoLog.keep(now);
            long rides = bitsOf(first, end);
            now.cancelled = off ? now.cancelled | rides : now.cancelled & ~rides;
            timesChanged();
        }
        return others;
    }

    public int undo() {
        if (!undoLog.takeBack(now)) {
            return NONE;
        }
        timesChanged();
        return undoLog.size;
    }

    private void timesChanged() {
        now.linked = false;
        outlook.forget();
    }

    // ---- profiles ----

    public int profile(int s, int t) {
        return profileBy(s, t, MOST_CHANGES);
    }

    public int at(int s, int t, int i, int what) {
        return atBy(s, t, MOST_CHANGES, i, what);
    }

    public int profileBy(int s, int t, int k) {
        if (!arePair(s, t) || !within(k, 0, MOST_CHANGES)) {
            return NONE;
        }
        list.make(now, outlook, s, t, k);
        return list.size;
    }

    public int atBy(int s, int t, int k, int i, int what) {
        if (!arePair(s, t) || !within(k, 0, MOST_CHANGES) || i < 0 || !within(what, 0, 2)) {
            return NONE;
        }
        list.make(now, outlook, s, t, k);
        if (i >= list.size) {
            return MISSING;
        }
        if (what == 0) {
            return list.departure(i);
        }
        return what == 1 ? list.arrival(i) : list.changesOf(i);
    }

    public int leg(int s, int t, int i, int l, int what) {
        if (!arePair(s, t) || i < 0 || l < 0 || !within(what, 0, 1)) {
            return NONE;
        }
        if (!unfold(s, t, i) || l >= unfolded.size) {
            return MISSING;
        }
        return what == 0 ? unfolded.on[l] : unfolded.off[l];
    }

    /** Whether there is an i-th in the PROFILE; its LEGS are in unfolded then. */
    private boolean unfold(int s, int t, int i) {
        list.make(now, outlook, s, t, MOST_CHANGES);
        if (i < 0 || i >= list.size) {
            return false;
        }
        list.unfold(i, outlook, unfolded);
        return true;
    }

    public int waits(int s, int t, int i, int what) {
        if (!arePair(s, t) || i < 0 || !within(what, 0, 1)) {
            return NONE;
        }
        if (!unfold(s, t, i)) {
            return MISSING;
        }
        if (what == 1) {
            return unfolded.size < 2 ? MISSING : unfolded.leastSlack(now);
        }
        int whole = list.arrival(i) - list.departure(i);
        return whole - unfolded.minutesOn(now) - unfolded.minutesWalked(net, s, t);
    }

    public int travels(int s, int t, int i, int what) {
        if (!arePair(s, t) || i < 0 || !within(what, 0, 2)) {
            return NONE;
        }
        if (!unfold(s, t, i)) {
            return MISSING;
        }
        if (what == 0) {
            return unfolded.minutesOn(now);
        }
        return what == 1 ? unfolded.minutesWalked(net, s, t) : unfolded.rides();
    }

    public int gap(int s, int t) {
        if (!arePair(s, t)) {
            return NONE;
        }
        list.make(now, outlook, s, t, MOST_CHANGES);
        int greatest = 0;
        for (int i = 1; i < list.size; i++) {
            greatest = Math.max(greatest, list.departure(i) - list.departure(i - 1));
        }
        return greatest == 0 ? MISSING : greatest;
    }

    public int quickest(int s, int t, int what) {
        if (!arePair(s, t) || !within(what, 0, 1)) {
            return NONE;
        }
        list.make(now, outlook, s, t, MOST_CHANGES);
        int best = MISSING;
        int least = NEVER;
        for (int i = 0; i < list.size; i++) {
            int minutes = list.arrival(i) - list.departure(i);
            if (minutes < least) {
                best = i;
                least = minutes;
            }
        }
        if (best < 0) {
            return MISSING;
        }
        return what == 0 ? best : least;
    }

    public int uses(int trip, int t) {
        if (!isTrip(trip) || !isStop(t)) {
            return NONE;
        }
        return countTo(t, trip, 0);
    }

    public int breaks(int trip, int d, int t) {
        if (!isTrip(trip) || !isStop(t) || !within(d, 1, GREATEST_DELAY)) {
            return NONE;
        }
        return countTo(t, trip, d);
    }

    /** UNFOLDED ones of all PROFILES to t that the TRIP breaks when d later; with d 0, that use it. */
    private int countTo(int t, int trip, int d) {
        int counted = 0;
        for (int s = 0; s < net.stops; s++) {
            if (s == t) {
                continue;
            }
            list.make(now, outlook, s, t, MOST_CHANGES);
            for (int i = 0; i < list.size; i++) {
                list.unfold(i, outlook, unfolded);
                if (d == 0 ? unfolded.areOn(net, trip) : unfolded.brokenBy(now, trip, d)) {
                    counted++;
                }
            }
        }
        return counted;
    }

    public int hub(int what) {
        if (!within(what, 0, 1)) {
            return NONE;
        }
        for (int stop = 0; stop < MOST_STOPS; stop++) {
            tally[stop] = 0;
        }
        for (int t = 0; t < net.stops; t++) {
            for (int s = 0; s < net.stops; s++) {
                if (s != t) {
                    tallyChanges(s, t);
                }
            }
        }
        int best = 0;
        for (int stop = 1; stop < net.stops; stop++) {
            if (tally[stop] > tally[best]) {
                best = stop;
            }
        }
        if (tally[best] == 0) {
            return MISSING;
        }
        return what == 0 ? best : tally[best];
    }

    private void tallyChanges(int s, int t) {
        list.make(now, outlook, s, t, MOST_CHANGES);
        for (int i = 0; i < list.size; i++) {
            list.unfold(i, outlook, unfolded);
            for (int l = 0; l < unfolded.size - 1; l++) {
                tally[net.to[unfolded.off[l]]]++;
            }
        }
    }

    // ---- earliest, latest ----

    public int earliest(int s, int t, int m, int k) {
        if (!isStop(s) || !isStop(t) || !isMinute(m) || !within(k, 0, MOST_CHANGES)) {
            return NONE;
        }
        return orMissing(now.soonest(s, t, m, k, 0L));
    }

    public int latest(int s, int t, int m) {
        if (!isStop(s) || !isStop(t) || !within(m, 0, LAST_LIMIT)) {
            return NONE;
        }
        return lastStart(s, t, m);
    }

    /** LATEST; MISSING, if there is none. */
    private int lastStart(int s, int t, int m) {
        outlook.look(now, t);
        list.arrange(now, s);
        int byRides = list.lastDeparture(outlook.arrive[t], m);
        int byWalking = m - net.walking[s][t];
        int last = Math.max(byRides, byWalking);
        return last < 0 ? MISSING : last;
    }

    public int reached(int s, int m, int n) {
        if (!isStop(s) || !isMinute(m) || !within(n, 0, LAST_LIMIT)) {
            return NONE;
        }
        long ridden = now.ridden(s, m, MOST_CHANGES, 0L);
        int stops = 0;
        for (int t = 0; t < net.stops; t++) {
            if (now.soonestOf(ridden, s, t, m) <= m + n) {
                stops |= 1 << t;
            }
        }
        return stops;
    }

    public int costOfFewer(int s, int t, int m, int k) {
        if (!arePair(s, t) || !isMinute(m) || !within(k, 1, MOST_CHANGES)) {
            return NO_MINUTES;
        }
        int with = now.soonest(s, t, m, k, 0L);
        if (with >= NEVER) {
            return NO_MINUTES;
        }
        int fewer = now.soonest(s, t, m, k - 1, 0L);
        return fewer >= NEVER ? NO_WAY_WITH_FEWER : fewer - with;
    }

    public int mean(int s, int t, int a, int b) {
        if (!arePair(s, t) || a < 0 || a >= b || b > LAST_MINUTE + 1) {
            return NONE;
        }
        outlook.look(now, t);
        list.arrange(now, s);
        return list.meanWay(outlook.arrive[t], net.walking[s][t], a, b);
    }

    public int fewest(int s, int t, int m, int z) {
        if (!arePair(s, t) || !isMinute(m) || !within(z, 0, LAST_LIMIT)) {
            return NONE;
        }
        for (int k = 0; k <= MOST_CHANGES; k++) {
            if (now.soonest(s, t, m, k, 0L) <= z) {
                return k;
            }
        }
        return MISSING;
    }

    public int next(int s, int t, int m) {
        if (!arePair(s, t) || !isMinute(m)) {
            return NONE;
        }
        int soonest = now.soonest(s, t, m, MOST_CHANGES, 0L);
        if (soonest >= NEVER) {
            return MISSING;
        }
        outlook.look(now, t);
        list.arrange(now, s);
        int last = list.lastDeparture(outlook.arrive[t], soonest);
        // One that leaves ahead of m is none of those that EARLIEST is asked of.
        if (last < m) {
            return MISSING;
        }
        return orMissing(list.soonestBehind(outlook.arrive[t], last));
    }

    public int meet(int a, int b, int m, int what) {
        if (!isStop(a) || !isStop(b) || !isMinute(m) || !within(what, 0, 1)) {
            return NONE;
        }
        long riddenByA = now.ridden(a, m, MOST_CHANGES, 0L);
        long riddenByB = now.ridden(b, m, MOST_CHANGES, 0L);
        int best = MISSING;
        int least = NEVER;
        for (int t = 0; t < net.stops; t++) {
            int minute = Math.max(now.soonestOf(riddenByA, a, t, m), now.soonestOf(riddenByB, b, t, m));
            if (minute < least) {
                best = t;
                least = minute;
            }
        }
        if (best < 0) {
            return MISSING;
        }
        return what == 0 ? best : least;
    }

    public int via(int s, int v, int t, int m) {
        if (!isStop(s) || !isStop(v) || !isStop(t) || !isMinute(m)) {
            return NONE;
        }
        int there = now.soonest(s, v, m, MOST_CHANGES, 0L);
        if (there >= NEVER) {
            return MISSING;
        }
        return orMissing(now.soonest(v, t, there, MOST_CHANGES, 0L));
    }

    public int stay(int s, int t, int m, int z) {
        if (!arePair(s, t) || !isMinute(m) || !within(z, 0, LAST_LIMIT)) {
            return NONE;
        }
        int there = now.soonest(s, t, m, MOST_CHANGES, 0L);
        int back = lastStart(t, s, z);
        if (there >= NEVER || back < 0) {
            return MISSING;
        }
        return back < there ? BARRED : back - there;
    }

    // ---- what if ----

    public int late(int trip, int s, int t, int m) {
        if (!isTrip(trip) || !arePair(s, t) || !isMinute(m)) {
            return NONE;
        }
        int soonest = now.soonest(s, t, m, MOST_CHANGES, 0L);
        if (soonest >= NEVER) {
            return BARRED;
        }
        // A way without the TRIP goes however late the TRIP is.
        if (now.soonest(s, t, m, MOST_CHANGES, net.ridesOf(trip)) <= soonest) {
            return MISSING;
        }
        trial.copy(now);
        for (int d = 1; d <= GREATEST_DELAY; d++) {
            trial.shift(trip, 1);
            if (trial.soonest(s, t, m, MOST_CHANGES, 0L) > soonest) {
                return d;
            }
        }
        return MISSING;
    }

    public int ifLate(int trip, int d, int s, int t, int m) {
        if (!isTrip(trip) || !within(d, LEAST_DELAY, GREATEST_DELAY) || !isStop(s) || !isStop(t) || !isMinute(m)) {
            return NONE;
        }
        trial.copy(now);
        trial.shift(trip, d);
        return orMissing(trial.soonest(s, t, m, MOST_CHANGES, 0L));
    }

    public int missed(int s, int t, int m, int what) {
        if (!arePair(s, t) || !isMinute(m) || !within(what, 0, 1)) {
            return NONE;
        }
        if (now.soonest(s, t, m, MOST_CHANGES, 0L) >= NEVER) {
            return MISSING;
        }
        int best = MISSING;
        int latest = -1;
        for (int trip = 0; trip < net.trips; trip++) {
            long rides = net.ridesOf(trip);
            if ((rides & ~now.cancelled) == 0L) {
                continue;
            }
            int without = now.soonest(s, t, m, MOST_CHANGES, rides);
            if (without > latest) {
                best = trip;
                latest = without;
            }
        }
        if (best < 0 || what == 0) {
            return best;
        }
        return latest >= NEVER ? BARRED : latest;
    }

    // ---- single rides ----

    public int board(int stop, int m, boolean coming, int i) {
        if (!isStop(stop) || !isMinute(m) || i < 0) {
            return NONE;
        }
        int[] places = coming ? net.to : net.from;
        int[] minutes = coming ? now.come : now.leave;
        int ride = MISSING;
        int minute = m;
        // Each round finds the least one behind the one found last.
        for (int round = 0; round <= i && round <= net.rides; round++) {
            ride = leastBehind(places, minutes, stop, ride, minute);
            if (ride < 0) {
                return MISSING;
            }
            minute = minutes[ride];
        }
        return ride;
    }

    /** The least RIDE by (minute, number) at a STOP that is behind (minute, ride); MISSING: none. */
    private int leastBehind(int[] places, int[] minutes, int stop, int ride, int minute) {
        int best = MISSING;
        for (int r = 0; r < net.rides; r++) {
            if (places[r] != stop || now.isCancelled(r)) {
                continue;
            }
            boolean behind = minutes[r] > minute || minutes[r] == minute && r > ride;
            if (behind && (best < 0 || minutes[r] < minutes[best])) {
                best = r;
            }
        }
        return best;
    }

    public int slack(int off, int on) {
        if (!isRide(off) || !isRide(on) || now.isCancelled(off) || now.isCancelled(on)) {
            return NO_MINUTES;
        }
        if (net.transfer[net.to[off]][net.from[on]] >= NEVER) {
            return NO_MINUTES;
        }
        return now.slackOf(off, on);
    }

    // ---- the plan ----

    public int plan(int on, int off) {
        if (!isRide(on) || !isRide(off)) {
            return NONE;
        }
        if (net.tripOf[on] != net.tripOf[off] || off < on) {
            return MISSING;
        }
        if (planned.size >= MOST_LEGS) {
            return BARRED;
        }
        planned.add(on, off);
        return planned.size;
    }

    public int planAnew() {
        int had = planned.size;
        planned.clear();
        return had;
    }

    public int planAs(int s, int t, int i) {
        if (!arePair(s, t) || i < 0) {
            return NONE;
        }
        if (!unfold(s, t, i)) {
            return MISSING;
        }
        planned.copy(unfolded);
        return planned.size;
    }

    public int checked(int s, int t, int m, boolean asTold, int what) {
        if (!isStop(s) || !isStop(t) || !isMinute(m) || !within(what, 0, 2)) {
            return NONE;
        }
        if (planned.size == 0) {
            return BARRED;
        }
        check.run(planned, asTold ? told : now, s, t, m);
        if (what == 0) {
            return check.reason;
        }
        boolean broken = check.reason != Check.GOES;
        if (what == 1) {
            return broken ? check.leg : MISSING;
        }
        return broken ? MISSING : check.arrival;
    }

    public int cause(int s, int t, int m) {
        if (!isStop(s) || !isStop(t) || !isMinute(m)) {
            return NONE;
        }
        if (!breaksInTime(s, t, m)) {
            return MISSING;
        }
        if (planned.timeToSpare(told, check.leg, s, m) < 0) {
            return BARRED;
        }
        for (int l = check.leg - 1; l >= 0; l--) {
            if (now.minutesLate(planned.off[l]) != 0) {
                return l;
            }
        }
        return check.leg;
    }

    public int tooLate(int s, int t, int m) {
        if (!isStop(s) || !isStop(t) || !isMinute(m)) {
            return NONE;
        }
        if (!breaksInTime(s, t, m) || planned.wayTo(net, check.leg, s) >= NEVER) {
            return MISSING;
        }
        return -planned.timeToSpare(now, check.leg, s, m);
    }

    /** Whether the PLAN BREAKS NOW as one can't be there in time; check tells for which LEG. */
    private boolean breaksInTime(int s, int t, int m) {
        if (planned.size == 0) {
            return false;
        }
        check.run(planned, now, s, t, m);
        return check.reason == Check.TOO_LATE;
    }

    public int spare(int s, int t, int m) {
        if (!isStop(s) || !isStop(t) || !isMinute(m)) {
            return NONE;
        }
        if (planned.size == 0) {
            return MISSING;
        }
        check.run(planned, now, s, t, m);
        return check.reason == Check.GOES ? check.leastSpare : MISSING;
    }

    public int count(int what) {
        switch (what) {
            case 0:
                return net.stops;
            case 1:
                return net.walks;
            case 2:
                return net.trips;
            case 3:
                return net.rides;
            case 4:
                return now.cancelledRides();
            case 5:
                return now.shiftedRides();
            case 6:
                return planned.size;
            case 7:
                return undoLog.size;
            case 8:
                return taped;
            default:
                return NONE;
        }
    }

    // ---- what arguments may be ----

    private boolean isStop(int stop) {
        return stop >= 0 && stop < net.stops;
    }

    private boolean arePair(int s, int t) {
        return isStop(s) && isStop(t) && s != t;
    }

    private boolean isTrip(int trip) {
        return trip >= 0 && trip < net.trips;
    }

    private boolean isRide(int ride) {
        return ride >= 0 && ride < net.rides;
    }

    private boolean isRideOf(int trip, int j) {
        return isTrip(trip) && j >= 0 && j < net.firstRide[trip + 1] - net.firstRide[trip];
    }

    private static boolean isMinute(int m) {
        return within(m, 0, LAST_MINUTE);
    }

    private static boolean within(int number, int least, int most) {
        return number >= least && number <= most;
    }

    private static int orMissing(int minutes) {
        return minutes >= NEVER ? MISSING : minutes;
    }

    /** The bits from one number on up to another, which is not among them. */
    private static long bitsOf(int first, int end) {
        long bits = 0L;
        for (int r = first; r < end; r++) {
            bits |= 1L << r;
        }
        return bits;
    }

    /** STOPS, WALKS, TRIPS and RIDES as told. The RIDES of a TRIP bear numbers in a row. */
    private static final class Network {
        int stops;
        int walks;
        int trips;
        int rides;
        final int[] names = new int[MOST_STOPS];
        final int[] changes = new int[MOST_STOPS];
        final int[][] walking = new int[MOST_STOPS][MOST_STOPS];
        /** Minutes from getting off at a STOP till one can be on at another or the same. */
        final int[][] transfer = new int[MOST_STOPS][MOST_STOPS];
        final int[] firstRide = new int[MOST_TRIPS + 1];
        final int[] tripOf = new int[MOST_RIDES];
        final int[] from = new int[MOST_RIDES];
        final int[] to = new int[MOST_RIDES];
        final int[] leaves = new int[MOST_RIDES];
        final int[] comes = new int[MOST_RIDES];

        void clear() {
            stops = 0;
            walks = 0;
            trips = 0;
            rides = 0;
            for (int a = 0; a < MOST_STOPS; a++) {
                for (int b = 0; b < MOST_STOPS; b++) {
                    walking[a][b] = a == b ? 0 : NEVER;
                }
            }
        }

        int stopNamed(int name) {
            for (int stop = 0; stop < stops; stop++) {
                if (names[stop] == name) {
                    return stop;
                }
            }
            return NONE;
        }

        void addStop(int name, int minutes) {
            if (stops < MOST_STOPS) {
                names[stops] = name;
                changes[stops] = minutes;
                stops++;
            }
        }

        void addWalk(int a, int b, int minutes) {
            walking[a][b] = Math.min(walking[a][b], minutes);
            walking[b][a] = walking[a][b];
            walks++;
        }

        void addTrip() {
            if (trips < MOST_TRIPS) {
                firstRide[trips] = rides;
                trips++;
                firstRide[trips] = rides;
            }
        }

        void addRide(int a, int leavesAt, int comesAt, int b) {
            if (rides < MOST_RIDES) {
                tripOf[rides] = trips - 1;
                from[rides] = a;
                to[rides] = b;
                leaves[rides] = leavesAt;
                comes[rides] = comesAt;
                rides++;
                firstRide[trips] = rides;
            }
        }

        /** Makes the walks told WALKS: the fewest minutes by walks one behind another. */
        void joinWalks() {
            for (int by = 0; by < stops; by++) {
                for (int a = 0; a < stops; a++) {
                    for (int b = 0; b < stops; b++) {
                        walking[a][b] = Math.min(walking[a][b], walking[a][by] + walking[by][b]);
                    }
                }
            }
        }

        void settleTransfers() {
            for (int a = 0; a < stops; a++) {
                for (int b = 0; b < stops; b++) {
                    transfer[a][b] = a == b ? changes[a] : walking[a][b];
                }
            }
        }

        /** Whether the RIDE has one of its TRIP behind it. */
        boolean goesOn(int ride) {
            return ride + 1 < rides && tripOf[ride + 1] == tripOf[ride];
        }

        long ridesOf(int trip) {
            return bitsOf(firstRide[trip], firstRide[trip + 1]);
        }
    }

    /** Reads a TEXT into a Network, token by token, up to the first FAULT. */
    private static final class Reader {
        private static final int END = 0;
        private static final int WORD = 1;
        private static final int NUMBER = 2;
        private static final int SEMICOLON = 3;
        private static final int BLANK = 4;
        private static final int NO_TOKEN = 5;

        private static final int CANT_STAND = 1;
        private static final int TOO_MUCH = 2;
        private static final int TOLD_ALREADY = 3;
        private static final int TOO_EARLY = 4;

        private static final int MOST_LETTERS = 6;
        private static final int STOP = ((19 * 27 + 20) * 27 + 15) * 27 + 16;
        private static final int WALK = ((23 * 27 + 1) * 27 + 12) * 27 + 11;
        private static final int TRIP = ((20 * 27 + 18) * 27 + 9) * 27 + 16;

        private static final int MOST_CHANGE_MINUTES = 60;
        private static final int MOST_WALK_MINUTES = 240;

        int fault;
        int faultPlace = NONE;
        int lines;
        private byte[] bytes;
        private int length;
        private Network net;
        private int place;
        private int behind;
        private int kind;
        private int value;

        /** Whether the first n bytes are a TEXT; else fault and faultPlace tell why not. */
        boolean read(byte[] source, int n, Network into) {
            bytes = source;
            length = Math.min(n, source.length);
            net = into;
            net.clear();
            fault = 0;
            faultPlace = NONE;
            lines = 0;
            behind = 0;
            advance();
            for (int bound = 0; bound <= length && kind != END; bound++) {
                if (!readLine()) {
                    return false;
                }
                lines++;
            }
            net.joinWalks();
            net.settleTransfers();
            return true;
        }

        private boolean readLine() {
            boolean good;
            if (kind == WORD && value == STOP) {
                good = readStop();
            } else if (kind == WORD && value == WALK) {
                good = readWalk();
            } else if (kind == WORD && value == TRIP) {
                good = readTrip();
            } else {
                good = fail(CANT_STAND);
            }
            return good && readEnd();
        }

        private boolean readEnd() {
            if (kind != SEMICOLON) {
                return fail(CANT_STAND);
            }
            advance();
            return true;
        }

        private boolean readStop() {
            if (net.stops >= MOST_STOPS) {
                return fail(TOO_MUCH);
            }
            advance();
            if (!isName()) {
                return fail(CANT_STAND);
            }
            int name = value;
            if (net.stopNamed(name) >= 0) {
                return fail(TOLD_ALREADY);
            }
            advance();
            if (!isNumber(0, MOST_CHANGE_MINUTES)) {
                return failNumber();
            }
            net.addStop(name, value);
            advance();
            return true;
        }

        private boolean readWalk() {
            if (net.walks >= MOST_WALKS) {
                return fail(TOO_MUCH);
            }
            advance();
            int a = stopHere();
            if (a < 0) {
                return fail(CANT_STAND);
            }
            advance();
            int b = stopHere();
            if (b < 0) {
                return fail(CANT_STAND);
            }
            if (a == b) {
                return fail(TOLD_ALREADY);
            }
            advance();
            if (!isNumber(1, MOST_WALK_MINUTES)) {
                return failNumber();
            }
            net.addWalk(a, b, value);
            advance();
            return true;
        }

        private boolean readTrip() {
            if (net.trips >= MOST_TRIPS) {
                return fail(TOO_MUCH);
            }
            advance();
            int stop = stopHere();
            if (stop < 0) {
                return fail(CANT_STAND);
            }
            advance();
            net.addTrip();
            int minute = 0;
            for (int ride = 0; ride == 0 || kind == NUMBER && ride <= MOST_RIDES; ride++) {
                if (!readRide(stop, minute)) {
                    return false;
                }
                stop = net.to[net.rides - 1];
                minute = net.comes[net.rides - 1];
            }
            return true;
        }

        /** Reads a RIDE that leaves a STOP, not ahead of a minute. */
        private boolean readRide(int stop, int minute) {
            if (!isNumber(0, LAST_MINUTE)) {
                return failNumber();
            }
            if (net.rides >= MOST_RIDES) {
                return fail(TOO_MUCH);
            }
            if (value < minute) {
                return fail(TOO_EARLY);
            }
            int leavesAt = value;
            advance();
            if (!isNumber(0, LAST_MINUTE)) {
                return failNumber();
            }
            if (value <= leavesAt) {
                return fail(TOO_EARLY);
            }
            int comesAt = value;
            advance();
            int nextStop = stopHere();
            if (nextStop < 0) {
                return fail(CANT_STAND);
            }
            if (nextStop == stop) {
                return fail(TOLD_ALREADY);
            }
            net.addRide(stop, leavesAt, comesAt, nextStop);
            advance();
            return true;
        }

        private boolean fail(int number) {
            fault = number;
            faultPlace = place;
            return false;
        }

        private boolean failNumber() {
            return fail(kind == NUMBER ? TOO_MUCH : CANT_STAND);
        }

        private boolean isName() {
            return kind == WORD && value != STOP && value != WALK && value != TRIP;
        }

        private boolean isNumber(int least, int most) {
            return kind == NUMBER && within(value, least, most);
        }

        private int stopHere() {
            return isName() ? net.stopNamed(value) : NONE;
        }

        /** Goes on to the next token: its place, kind and value. */
        private void advance() {
            place = behind;
            while (place < length && kindAt(place) == BLANK) {
                place++;
            }
            kind = kindAt(place);
            behind = Math.min(place + 1, length);
            if (kind == WORD || kind == NUMBER) {
                while (behind < length && kindAt(behind) == kind) {
                    behind++;
                }
            }
            if (kind == WORD && behind - place > MOST_LETTERS) {
                kind = NO_TOKEN;
            }
            value = kind == WORD ? letters() : digits();
        }

        private int kindAt(int p) {
            if (p >= length) {
                return END;
            }
            int sign = bytes[p];
            if (sign >= 'a' && sign <= 'z') {
                return WORD;
            }
            if (sign >= '0' && sign <= '9') {
                return NUMBER;
            }
            if (sign == ';') {
                return SEMICOLON;
            }
            return sign == 10 || sign == 32 ? BLANK : NO_TOKEN;
        }

        /** A number for the word, another one for each. */
        private int letters() {
            int number = 0;
            for (int p = place; p < behind; p++) {
                number = number * 27 + (bytes[p] - 'a' + 1);
            }
            return number;
        }

        /** The number; one that is far too great stays below what an int can hold. */
        private int digits() {
            int number = 0;
            for (int p = place; p < behind && kind == NUMBER && number < NEVER; p++) {
                number = number * 10 + (bytes[p] - '0');
            }
            return number;
        }
    }

    /** When each RIDE leaves and comes, and which are CANCELLED: as told, NOW, or as it might be. */
    private static final class Times {
        Network net;
        long cancelled;
        boolean linked;
        final int[] leave = new int[MOST_RIDES];
        final int[] come = new int[MOST_RIDES];
        /** For each RIDE that one gets off: those that one can be on then, as bits. */
        final long[] onward = new long[MOST_RIDES];

        Times(Network net) {
            this.net = net;
        }

        /** Starts as told. */
        void begin(Network anew) {
            net = anew;
            cancelled = 0L;
            linked = false;
            for (int r = 0; r < net.rides; r++) {
                setMinutesLate(r, 0);
            }
        }

        /** Takes over all of another one, linked. */
        void copy(Times other) {
            other.link();
            net = other.net;
            cancelled = other.cancelled;
            linked = true;
            for (int r = 0; r < net.rides; r++) {
                leave[r] = other.leave[r];
                come[r] = other.come[r];
                onward[r] = other.onward[r];
            }
        }

        boolean isCancelled(int ride) {
            return (cancelled >> ride & 1L) != 0L;
        }

        int minutesLate(int ride) {
            return leave[ride] - net.leaves[ride];
        }

        void setMinutesLate(int ride, int minutes) {
            leave[ride] = net.leaves[ride] + minutes;
            come[ride] = net.comes[ride] + minutes;
        }

        /** Whether a DELAY from a RIDE on can't be: only that RIDE meets one that stays as it is. */
        boolean refuses(int ride, int minutes) {
            int leavesAt = net.leaves[ride] + minutes;
            if (leavesAt < 0) {
                return true;
            }
            return ride > 0 && net.goesOn(ride - 1) && leavesAt < come[ride - 1];
        }

        int cancelledRides() {
            int counted = 0;
            for (int r = 0; r < net.rides; r++) {
                if (isCancelled(r)) {
                    counted++;
                }
            }
            return counted;
        }

        int shiftedRides() {
            int counted = 0;
            for (int r = 0; r < net.rides; r++) {
                if (minutesLate(r) != 0) {
                    counted++;
                }
            }
            return counted;
        }

        /** By how many minutes a RIDE leaves later than one off another can be there. */
        int slackOf(int off, int on) {
            return leave[on] - come[off] - net.transfer[net.to[off]][net.from[on]];
        }

        void link() {
            if (linked) {
                return;
            }
            for (int off = 0; off < net.rides; off++) {
                onward[off] = 0L;
                for (int on = 0; on < net.rides; on++) {
                    linkOne(off, on);
                }
            }
            linked = true;
        }

        private void linkOne(int off, int on) {
            if (!isCancelled(on) && slackOf(off, on) >= 0) {
                onward[off] |= 1L << on;
            } else {
                onward[off] &= ~(1L << on);
            }
        }

        /** Makes all RIDES of a TRIP later; what was linked stays so. */
        void shift(int trip, int minutes) {
            int first = net.firstRide[trip];
            int end = net.firstRide[trip + 1];
            for (int r = first; r < end; r++) {
                leave[r] += minutes;
                come[r] += minutes;
            }
            for (int r = first; r < end; r++) {
                for (int other = 0; other < net.rides; other++) {
                    linkOne(r, other);
                    linkOne(other, r);
                }
            }
        }

        /** EARLIEST without some RIDES; NEVER, if there is no way. */
        int soonest(int s, int t, int m, int changes, long without) {
            return soonestOf(ridden(s, m, changes, without), s, t, m);
        }

        /** EARLIEST by RIDES that one can be on; NEVER, if there is no way. */
        int soonestOf(long ridden, int s, int t, int m) {
            int best = Math.min(NEVER, m + net.walking[s][t]);
            for (int r = 0; r < net.rides; r++) {
                if ((ridden >> r & 1L) != 0L) {
                    best = Math.min(best, come[r] + net.walking[net.to[r]][t]);
                }
            }
            return best;
        }

        /** The RIDES, as bits, that one at s at minute m can be on by so many CHANGES at most. */
        long ridden(int s, int m, int changes, long without) {
            link();
            long barred = cancelled | without;
            long bits = 0L;
            for (int r = 0; r < net.rides; r++) {
                if ((barred >> r & 1L) == 0L && leave[r] - net.walking[s][net.from[r]] >= m) {
                    bits |= 1L << r;
                }
            }
            bits = withNextOnes(bits, barred);
            for (int change = 0; change < changes; change++) {
                long more = bits;
                for (int r = 0; r < net.rides; r++) {
                    if ((bits >> r & 1L) != 0L) {
                        more |= onward[r] & ~barred;
                    }
                }
                more = withNextOnes(more, barred);
                if (more == bits) {
                    break;
                }
                bits = more;
            }
            return bits;
        }

        /** Adds the RIDES for which one stays on. */
        private long withNextOnes(long ridden, long barred) {
            long bits = ridden;
            for (int r = 0; r + 1 < net.rides; r++) {
                boolean open = (barred >> (r + 1) & 1L) == 0L;
                if (open && (bits >> r & 1L) != 0L && net.goesOn(r)) {
                    bits |= 1L << (r + 1);
                }
            }
            return bits;
        }
    }

    /** What can be undone: how NOW was ahead of each call that changed it. */
    private static final class UndoLog {
        int size;
        private int top;
        private final int[][] minutesLate = new int[MOST_UNDONE][MOST_RIDES];
        private final long[] cancelled = new long[MOST_UNDONE];

        void clear() {
            size = 0;
        }

        /** Keeps how it is; the eldest one is forgotten if there are too many. */
        void keep(Times now) {
            for (int r = 0; r < now.net.rides; r++) {
                minutesLate[top][r] = now.minutesLate(r);
            }
            cancelled[top] = now.cancelled;
            top = top + 1 < MOST_UNDONE ? top + 1 : 0;
            size = Math.min(size + 1, MOST_UNDONE);
        }

        /** Puts back what was kept last; whether there was any. */
        boolean takeBack(Times now) {
            if (size == 0) {
                return false;
            }
            size--;
            top = top > 0 ? top - 1 : MOST_UNDONE - 1;
            for (int r = 0; r < now.net.rides; r++) {
                now.setMinutesLate(r, minutesLate[top][r]);
            }
            now.cancelled = cancelled[top];
            return true;
        }
    }

    /**
     * For a STOP t, of each RIDE and number of CHANGES still allowed: when one who is on the RIDE
     * comes to t at best, and how. Kept for each t till NOW changes.
     */
    private static final class Outlook {
        /** By t, then at changes * MOST_RIDES + ride. */
        final int[][] arrive = new int[MOST_STOPS][(MOST_CHANGES + 1) * MOST_RIDES];
        /** The first RIDE at whose end one gets off to come so early. */
        final int[][] getOff = new int[MOST_STOPS][(MOST_CHANGES + 1) * MOST_RIDES];
        /** Off that one, the first RIDE to be on next (NONE: it is the last LEG). */
        final int[][] getOn = new int[MOST_STOPS][(MOST_CHANGES + 1) * MOST_RIDES];
        private final boolean[] seen = new boolean[MOST_STOPS];

        void forget() {
            for (int t = 0; t < MOST_STOPS; t++) {
                seen[t] = false;
            }
        }

        void look(Times now, int t) {
            if (seen[t]) {
                return;
            }
            now.link();
            boolean better = true;
            for (int changes = 0; changes <= MOST_CHANGES; changes++) {
                // Where one CHANGE more helped nobody, further ones don't either.
                if (better) {
                    better = lookBy(now, t, changes);
                } else {
                    repeat(now.net.rides, t, changes);
                }
            }
            seen[t] = true;
        }

        /** Whether one comes earlier on some RIDE than by one CHANGE less. */
        private boolean lookBy(Times now, int t, int changes) {
            int row = changes * MOST_RIDES;
            boolean better = changes == 0;
            // Backwards, as a RIDE asks for the one of its TRIP behind it.
            for (int r = now.net.rides - 1; r >= 0; r--) {
                lookFrom(now, t, changes, r);
                if (changes > 0 && arrive[t][row + r] < arrive[t][row - MOST_RIDES + r]) {
                    better = true;
                }
            }
            return better;
        }

        /** Only when one comes: no PROFILE has a row whose last CHANGE doesn't help. */
        private void repeat(int rides, int t, int changes) {
            int row = changes * MOST_RIDES;
            for (int r = 0; r < rides && changes > 0; r++) {
                arrive[t][row + r] = arrive[t][row - MOST_RIDES + r];
            }
        }

        private void lookFrom(Times now, int t, int changes, int ride) {
            int row = changes * MOST_RIDES;
            if (now.isCancelled(ride)) {
                arrive[t][row + ride] = NEVER;
                getOff[t][row + ride] = ride;
                getOn[t][row + ride] = NONE;
                return;
            }
            int walk = now.net.walking[now.net.to[ride]][t];
            int best = walk >= NEVER ? NEVER : now.come[ride] + walk;
            int on = NONE;
            if (changes > 0) {
                on = bestOnward(now, ride, arrive[t], row - MOST_RIDES, best);
                if (on >= 0) {
                    best = arrive[t][row - MOST_RIDES + on];
                }
            }
            int off = ride;
            // A CANCELLED next one comes NEVER, so that nobody stays on for it.
            if (now.net.goesOn(ride) && arrive[t][row + ride + 1] < best) {
                best = arrive[t][row + ride + 1];
                off = getOff[t][row + ride + 1];
            }
            arrive[t][row + ride] = best;
            getOff[t][row + ride] = off;
            getOn[t][row + ride] = on;
        }

        /** Off a RIDE, the first one to be on by which one comes earliest, if ahead of a minute. */
        private static int bestOnward(Times now, int off, int[] arrivals, int row, int minute) {
            int found = NONE;
            int best = minute;
            long rides = now.onward[off];
            for (int on = 0; on < now.net.rides && rides != 0L; on++) {
                if ((rides & 1L) != 0L && arrivals[row + on] < best) {
                    best = arrivals[row + on];
                    found = on;
                }
                rides >>>= 1;
            }
            return found;
        }
    }

    /** The PROFILE of two STOPS, and the departures from one STOP that it is made of. */
    private static final class Profile {
        private static final int MOST_ROWS = (MOST_CHANGES + 1) * MOST_RIDES;

        int size;
        private int target;
        private int start;
        private final int[] dep = new int[MOST_ROWS];
        private final int[] arr = new int[MOST_ROWS];
        private final int[] changes = new int[MOST_ROWS];
        private final int[] firstRide = new int[MOST_ROWS];
        private int departures;
        /** RIDES to be on first, by when one has to leave. */
        private final int[] order = new int[MOST_RIDES];
        private final int[] leaveAt = new int[MOST_RIDES];
        /** By CHANGES: the least ARR of all later DEPs; of this DEP, and its first RIDE. */
        private final int[] later = new int[MOST_CHANGES + 1];
        private final int[] least = new int[MOST_CHANGES + 1];
        private final int[] leastRide = new int[MOST_CHANGES + 1];

        int departure(int i) {
            return dep[start + i];
        }

        int arrival(int i) {
            return arr[start + i];
        }

        int changesOf(int i) {
            return changes[start + i];
        }

        /** Orders the RIDES that one from s can be on first by DEP, of like ones by numbers. */
        void arrange(Times now, int s) {
            departures = 0;
            for (int r = 0; r < now.net.rides; r++) {
                int minute = now.leave[r] - now.net.walking[s][now.net.from[r]];
                if (minute >= 0 && !now.isCancelled(r)) {
                    insert(r, minute);
                }
            }
        }

        private void insert(int ride, int minute) {
            int place = departures;
            while (place > 0 && leaveAt[order[place - 1]] > minute) {
                order[place] = order[place - 1];
                place--;
            }
            order[place] = ride;
            leaveAt[ride] = minute;
            departures++;
        }

        /** The PROFILE by JOURNEYS of so many CHANGES at most. */
        void make(Times now, Outlook outlook, int s, int t, int most) {
            outlook.look(now, t);
            arrange(now, s);
            target = t;
            // From the last DEP on: rows are put ahead of one another.
            start = MOST_ROWS;
            for (int c = 0; c <= most; c++) {
                later[c] = NEVER;
                least[c] = NEVER;
            }
            int walk = now.net.walking[s][t];
            for (int p = departures - 1; p >= 0; p--) {
                int minute = leaveAt[order[p]];
                gather(order[p], outlook.arrive[t], most);
                if (p == 0 || leaveAt[order[p - 1]] != minute) {
                    putRows(minute, walk, most);
                }
            }
            size = MOST_ROWS - start;
        }

        private void gather(int ride, int[] arrivals, int most) {
            for (int c = 0; c <= most; c++) {
                int minute = arrivals[c * MOST_RIDES + ride];
                // Like DEPs come with falling numbers, and the first RIDE is wanted.
                if (minute <= least[c]) {
                    least[c] = minute;
                    leastRide[c] = ride;
                }
            }
        }

        /** Puts what is not BEATEN of those with one DEP; more CHANGES must come earlier. */
        private void putRows(int minute, int walk, int most) {
            int byFewer = NEVER;
            for (int c = 0; c <= most; c++) {
                int comes = least[c];
                if (comes < byFewer && comes < later[c] && comes - minute < walk) {
                    start--;
                    dep[start] = minute;
                    arr[start] = comes;
                    changes[start] = c;
                    firstRide[start] = leastRide[c];
                }
                byFewer = Math.min(byFewer, comes);
                later[c] = Math.min(later[c], comes);
                least[c] = NEVER;
            }
        }

        /** The LEGS of the i-th. No way with its DEP and ARR has fewer CHANGES: the row is exact. */
        void unfold(int i, Outlook outlook, Legs legs) {
            legs.clear();
            int ride = firstRide[start + i];
            for (int c = changes[start + i]; c >= 0 && ride >= 0; c--) {
                int off = outlook.getOff[target][c * MOST_RIDES + ride];
                legs.add(ride, off);
                ride = outlook.getOn[target][c * MOST_RIDES + off];
            }
        }

        /** The greatest DEP with ARR at a minute or ahead of it; NONE, if there is none. */
        int lastDeparture(int[] arrivals, int minute) {
            for (int p = departures - 1; p >= 0; p--) {
                if (arrivals[MOST_CHANGES * MOST_RIDES + order[p]] <= minute) {
                    return leaveAt[order[p]];
                }
            }
            return NONE;
        }

        /** The least ARR with a DEP later than a minute; NEVER, if there is none. */
        int soonestBehind(int[] arrivals, int minute) {
            int best = NEVER;
            for (int p = departures - 1; p >= 0 && leaveAt[order[p]] > minute; p--) {
                best = Math.min(best, arrivals[MOST_CHANGES * MOST_RIDES + order[p]]);
            }
            return best;
        }

        /** MEAN, from the last minute back, so that each departure is looked at once. */
        int meanWay(int[] arrivals, int walk, int a, int b) {
            int best = NEVER;
            int p = departures - 1;
            int sum = 0;
            int minutes = 0;
            for (int m = b - 1; m >= a; m--) {
                while (p >= 0 && leaveAt[order[p]] >= m) {
                    best = Math.min(best, arrivals[MOST_CHANGES * MOST_RIDES + order[p]]);
                    p--;
                }
                int way = Math.min(best - m, walk);
                if (m + way < NEVER) {
                    sum += way;
                    minutes++;
                }
            }
            return minutes == 0 ? MISSING : sum / minutes;
        }
    }

    /** A row of LEGS: one UNFOLDED, or the PLAN. */
    private static final class Legs {
        int size;
        final int[] on = new int[MOST_LEGS];
        final int[] off = new int[MOST_LEGS];

        void clear() {
            size = 0;
        }

        void add(int rideOn, int rideOff) {
            if (size < MOST_LEGS) {
                on[size] = rideOn;
                off[size] = rideOff;
                size++;
            }
        }

        void copy(Legs other) {
            clear();
            for (int l = 0; l < other.size; l++) {
                add(other.on[l], other.off[l]);
            }
        }

        int rides() {
            int sum = 0;
            for (int l = 0; l < size; l++) {
                sum += off[l] - on[l] + 1;
            }
            return sum;
        }

        int minutesOn(Times times) {
            int sum = 0;
            for (int l = 0; l < size; l++) {
                sum += times.come[off[l]] - times.leave[on[l]];
            }
            return sum;
        }

        int minutesWalked(Network net, int s, int t) {
            int sum = 0;
            int stop = s;
            for (int l = 0; l < size; l++) {
                sum += net.walking[stop][net.from[on[l]]];
                stop = net.to[off[l]];
            }
            return sum + net.walking[stop][t];
        }

        int leastSlack(Times times) {
            int least = NEVER;
            for (int l = 1; l < size; l++) {
                least = Math.min(least, times.slackOf(off[l - 1], on[l]));
            }
            return least;
        }

        boolean areOn(Network net, int trip) {
            for (int l = 0; l < size; l++) {
                if (net.tripOf[on[l]] == trip) {
                    return true;
                }
            }
            return false;
        }

        /** Whether one could not be on a LEG in time any more, were a TRIP d later. */
        boolean brokenBy(Times times, int trip, int d) {
            for (int l = 1; l < size; l++) {
                int slack = times.slackOf(off[l - 1], on[l]);
                if (times.net.tripOf[on[l]] == trip) {
                    slack += d;
                }
                if (times.net.tripOf[off[l - 1]] == trip) {
                    slack -= d;
                }
                if (slack < 0) {
                    return true;
                }
            }
            return false;
        }

        boolean isCancelled(Times times, int l) {
            for (int r = on[l]; r <= off[l]; r++) {
                if (times.isCancelled(r)) {
                    return true;
                }
            }
            return false;
        }

        /** Minutes from s, or from where the LEG ahead ends, till one can be on LEG l; NEVER: no WALK. */
        int wayTo(Network net, int l, int s) {
            int stop = net.from[on[l]];
            return l == 0 ? net.walking[s][stop] : net.transfer[net.to[off[l - 1]]][stop];
        }

        /** By how many minutes LEG l leaves later than one from s at minute m can be there. */
        int timeToSpare(Times times, int l, int s, int m) {
            int ready = l == 0 ? m : times.come[off[l - 1]];
            return times.leave[on[l]] - ready - wayTo(times.net, l, s);
        }
    }

    /** Whether a PLAN goes, and if not, for which LEG and why it BREAKS. */
    private static final class Check {
        static final int GOES = 0;
        static final int CANCELLED = 1;
        static final int TOO_LATE = 2;
        static final int NO_WALK = 3;

        int reason;
        int leg;
        int arrival;
        int leastSpare;

        /** Checks LEGS, of which there is one at least. */
        void run(Legs legs, Times times, int s, int t, int m) {
            leastSpare = NEVER;
            for (leg = 0; leg < legs.size; leg++) {
                int left = legs.timeToSpare(times, leg, s, m);
                if (legs.isCancelled(times, leg)) {
                    reason = CANCELLED;
                    return;
                }
                if (left < 0) {
                    reason = TOO_LATE;
                    return;
                }
                leastSpare = Math.min(leastSpare, left);
            }
            int end = legs.off[Math.max(legs.size, 1) - 1];
            int walk = times.net.walking[times.net.to[end]][t];
            reason = walk >= NEVER ? NO_WALK : GOES;
            arrival = times.come[end] + walk;
        }
    }
}
