import java.util.Random;

/** Random timetables and random calls, right and wrong ones: the class against the Oracle. */
public final class RandomRunsTest {
    private static final Calls calls = new Calls();

    public static void main(String[] args) {
        int runs = args.length > 0 ? Integer.parseInt(args[0]) : 1500;
        for (int seed = 1; seed <= runs && calls.wrongOnes() == 0; seed++) {
            new RandomRunsTest(seed).run();
        }
        calls.end();
    }

    private final Random random;
    private final int seed;
    private final Oracle oracle = new Oracle();
    private final DayProfiles x = new DayProfiles();
    private final StringBuilder text = new StringBuilder();
    private int horizon;

    private RandomRunsTest(int seed) {
        this.seed = seed;
        this.random = new Random(seed);
    }

    private void run() {
        int lines = seed % 50 == 0 ? makeFullNetwork() : makeNetwork();
        calls.due("seed " + seed + " text " + text, Calls.text(x, text.toString()), lines);
        oracle.begin();
        int number = 60 + random.nextInt(200);
        for (int i = 0; i < number; i++) {
            if (random.nextInt(5) == 0) {
                changeNow();
            } else {
                ask();
            }
        }
    }

    // ---- the timetable ----

    private int below(int n) {
        return random.nextInt(n);
    }

    private String blanks() {
        return below(8) == 0 ? "\n " : " ";
    }

    private static String name(int stop) {
        return "abcdefghij".substring(stop, stop + 1) + (stop % 3 == 0 ? "x" : stop % 3 == 1 ? "" : "stop");
    }

    /** All that a text may have; it is one of short names, and of few journeys for the Oracle's sake. */
    private int makeFullNetwork() {
        oracle.stops = 10;
        oracle.change = new int[10];
        horizon = 100;
        for (int s = 0; s < 10; s++) {
            oracle.change[s] = 15 + below(46);
            text.append("stop ").append((char) ('a' + s)).append(' ').append(oracle.change[s]).append(';');
        }
        for (int w = 0; w < 12; w++) {
            int a = below(9);
            int minutes = 20 + below(60);
            oracle.walks.add(new int[] {a, a / 3 * 3 + (a + 1) % 3, minutes});
            text.append("walk ").append((char) ('a' + a)).append(' ').append((char) ('a' + a / 3 * 3 + (a + 1) % 3));
            text.append(' ').append(minutes).append(';');
        }
        for (; oracle.trips < 20; oracle.trips++) {
            int stop = below(10);
            int minute = below(85);
            text.append("trip ").append((char) ('a' + stop));
            for (int i = 0; i < 3; i++) {
                int next = (stop + 1 + below(9)) % 10;
                int comes = minute + 1 + below(3);
                oracle.rides.add(new int[] {oracle.trips, stop, next, minute, comes});
                text.append(' ').append(minute).append(' ').append(comes).append(' ').append((char) ('a' + next));
                stop = next;
                minute = comes + below(3);
            }
            text.append(';');
        }
        return 42;
    }

    private int makeNetwork() {
        oracle.stops = 2 + below(4);
        oracle.change = new int[oracle.stops];
        horizon = below(3) == 0 ? 1440 : below(2) == 0 ? 60 : 200;
        int lines = 0;
        for (int s = 0; s < oracle.stops; s++) {
            oracle.change[s] = below(3) == 0 ? 0 : below(12);
            text.append("stop").append(blanks()).append(name(s)).append(blanks()).append(oracle.change[s]).append(';');
            lines++;
        }
        int walks = below(4);
        for (int w = 0; w < walks; w++) {
            int a = below(oracle.stops);
            int b = (a + 1 + below(oracle.stops - 1)) % oracle.stops;
            int minutes = 1 + below(below(2) == 0 ? 20 : 60);
            oracle.walks.add(new int[] {a, b, minutes});
            text.append("walk ").append(name(a)).append(' ').append(name(b)).append(blanks()).append(minutes).append(" ;\n");
            lines++;
        }
        int rides = below(13);
        while (oracle.rides.size() < rides && oracle.trips < 20) {
            lines += makeTrip(rides) ? 1 : 0;
        }
        return lines;
    }

    private boolean makeTrip(int rides) {
        int stop = below(oracle.stops);
        int minute = below(horizon - 1);
        if (minute + 1 >= horizon) {
            return false;
        }
        text.append("trip ").append(name(stop));
        for (int i = 0; (i == 0 || below(2) == 0) && oracle.rides.size() < rides + 1; i++) {
            int leaves = minute + (i == 0 ? 0 : below(3) == 0 ? 0 : below(12));
            int comes = leaves + 1 + below(25);
            if (comes > 1439 || leaves > 1438) {
                if (i > 0) {
                    break;
                }
                comes = leaves + 1;
            }
            int next = (stop + 1 + below(oracle.stops - 1)) % oracle.stops;
            oracle.rides.add(new int[] {oracle.trips, stop, next, leaves, comes});
            text.append(' ').append(leaves).append(blanks()).append(comes).append(' ').append(name(next));
            stop = next;
            minute = comes;
        }
        text.append(';');
        oracle.trips++;
        return true;
    }

    // ---- arguments: mostly good ones ----

    private int stop() {
        return below(25) == 0 ? (below(2) == 0 ? -1 : oracle.stops) : below(oracle.stops);
    }

    private int trip() {
        return below(20) == 0 || oracle.trips == 0 ? below(3) - 1 + oracle.trips : below(oracle.trips);
    }

    private int ride() {
        int n = oracle.rides.size();
        return below(20) == 0 || n == 0 ? (below(2) == 0 ? -1 : n) : below(n);
    }

    private int minute() {
        return below(40) == 0 ? (below(2) == 0 ? -1 : 1440) : below(6) == 0 ? below(1440) : below(horizon);
    }

    private int limit() {
        return below(40) == 0 ? (below(2) == 0 ? -1 : 2001) : below(3) == 0 ? below(2001) : below(horizon + 100);
    }

    private int index() {
        return below(20) == 0 ? -1 : below(5);
    }

    private int what(int most) {
        return below(30) == 0 ? (below(2) == 0 ? -1 : most + 1) : below(most + 1);
    }

    private int minutes() {
        return below(20) == 0 ? (below(2) == 0 ? -61 : 241) : below(4) == 0 ? 0 : below(3) == 0 ? below(301) - 60 : below(30) - 10;
    }

    private void due(String call, int got, int want) {
        calls.due("seed " + seed + " " + call + " of " + text, got, want);
    }

    private void changeNow() {
        int trip = trip();
        int j = index() / 2;
        switch (below(9)) {
            case 0:
            case 1:
            case 2: {
                int d = minutes();
                due("delay " + trip + " " + j + " " + d, x.delay(trip, j, d), oracle.delay(trip, j, d));
                return;
            }
            case 3:
            case 4: {
                int n = below(30) == 0 ? 0 : below(9) == 0 ? Integer.MAX_VALUE : 1 + below(3);
                boolean off = below(2) == 0;
                due("cancel", x.cancel(trip, j, n, off), oracle.cancel(trip, j, n, off));
                return;
            }
            case 5:
                due("undo", x.undo(), oracle.undo());
                return;
            case 6: {
                int on = ride();
                int off = below(3) == 0 ? ride() : below(2) == 0 ? on : on + 1;
                due("plan", x.plan(on, off), oracle.plan(on, off));
                return;
            }
            case 7: {
                int s = stop();
                int t = stop();
                int i = index();
                due("planAs", x.planAs(s, t, i), oracle.planAs(s, t, i));
                return;
            }
            default:
                if (below(3) == 0) {
                    int had = oracle.plan.size();
                    oracle.plan.clear();
                    due("planAnew", x.planAnew(), had);
                }
        }
    }

    private void ask() {
        int s = stop();
        int t = stop();
        int m = minute();
        switch (below(4)) {
            case 0:
                askProfile(s, t);
                return;
            case 1:
                askTimes(s, t, m);
                return;
            case 2:
                askWhatIf(s, t, m);
                return;
            default:
                askPlan(s, t, m);
        }
    }

    private void askProfile(int s, int t) {
        int i = index();
        int k = what(4);
        int l = index();
        String at = s + " " + t + " " + i + " ";
        due("profileBy " + at + k, x.profileBy(s, t, k),
            oracle.two(s, t) && k >= 0 && k <= 4 ? oracle.profile(s, t, k).size() : -1);
        due("profile " + at, x.profile(s, t), oracle.two(s, t) ? oracle.profile(s, t, 4).size() : -1);
        for (int what = -1; what <= 3; what++) {
            due("at " + at + what, x.at(s, t, i, what), oracle.at(s, t, 4, i, what));
            due("atBy " + at + k + what, x.atBy(s, t, k, i, what), oracle.at(s, t, k, i, what));
            due("leg " + at + l + what, x.leg(s, t, i, l, what), oracle.leg(s, t, i, l, what));
            due("waits " + at + what, x.waits(s, t, i, what), oracle.waits(s, t, i, what));
            due("travels " + at + what, x.travels(s, t, i, what), oracle.travels(s, t, i, what));
        }
        due("gap " + at, x.gap(s, t), oracle.gap(s, t));
        int what = what(1);
        due("quickest " + at + what, x.quickest(s, t, what), oracle.quickest(s, t, what));
        due("hub " + what, x.hub(what), oracle.hub(what));
        int trip = trip();
        due("uses " + trip + " " + t, x.uses(trip, t), oracle.uses(trip, t));
        int d = below(15) == 0 ? (below(2) == 0 ? 0 : 241) : 1 + below(below(2) == 0 ? 20 : 240);
        due("breaks " + trip + " " + d + " " + t, x.breaks(trip, d, t), oracle.breaks(trip, d, t));
    }

    private void askTimes(int s, int t, int m) {
        int k = what(4);
        int z = limit();
        int v = stop();
        String at = s + " " + t + " " + m + " ";
        due("earliest " + at + k, x.earliest(s, t, m, k), oracle.earliestAnswer(s, t, m, k));
        due("latest " + at + z, x.latest(s, t, z), oracle.latestAnswer(s, t, z));
        due("reached " + at + z, x.reached(s, m, z), oracle.reached(s, m, z));
        due("costOfFewer " + at + k, x.costOfFewer(s, t, m, k), oracle.costOfFewer(s, t, m, k));
        int b = below(10) == 0 ? m : m + 1 + below(20);
        due("mean " + at + b, x.mean(s, t, m, b), oracle.mean(s, t, m, b));
        due("fewest " + at + z, x.fewest(s, t, m, z), oracle.fewest(s, t, m, z));
        due("next " + at, x.next(s, t, m), oracle.next(s, t, m));
        int what = what(1);
        due("meet " + at + what, x.meet(s, t, m, what), oracle.meet(s, t, m, what));
        due("via " + at + v, x.via(s, v, t, m), oracle.via(s, v, t, m));
        due("stay " + at + z, x.stay(s, t, m, z), oracle.stay(s, t, m, z));
    }

    private void askWhatIf(int s, int t, int m) {
        int trip = trip();
        int d = minutes();
        int what = what(1);
        String at = s + " " + t + " " + m + " ";
        if (below(12) == 0) {
            due("late " + trip + " " + at, x.late(trip, s, t, m), oracle.late(trip, s, t, m));
        }
        due("ifLate " + trip + " " + d + " " + at, x.ifLate(trip, d, s, t, m), oracle.ifLate(trip, d, s, t, m));
        due("missed " + at + what, x.missed(s, t, m, what), oracle.missed(s, t, m, what));
    }

    private void askPlan(int s, int t, int m) {
        String at = s + " " + t + " " + m + " ";
        for (int what = -1; what <= 3; what++) {
            due("checked " + at + what, x.checked(s, t, m, true, what), oracle.checked(s, t, m, true, what));
            due("checked " + at + what, x.checked(s, t, m, false, what), oracle.checked(s, t, m, false, what));
        }
        due("cause " + at, x.cause(s, t, m), oracle.cause(s, t, m));
        due("tooLate " + at, x.tooLate(s, t, m), oracle.tooLate(s, t, m));
        due("spare " + at, x.spare(s, t, m), oracle.spare(s, t, m));
        int what = below(8);
        due("count " + what, x.count(what), oracle.count(what));
        int i = ride();
        what = below(9);
        if (oracle.ride(i)) {
            due("ride " + i + " " + what, x.ride(i, what), oracle.rideAnswer(i, what));
        }
        due("walk " + at, x.walk(s, t), oracle.walk(s, t));
        due("change " + s, x.change(s), oracle.stop(s) ? oracle.change[s] : -1);
        int j = ride();
        due("slack " + i + " " + j, x.slack(i, j), oracle.slack(i, j));
        boolean coming = below(2) == 0;
        int nth = index();
        due("board " + at + coming + nth, x.board(s, m, coming, nth), oracle.board(s, m, coming, nth));
    }
}
