import java.util.List;
import java.util.Random;

/** The largest timetables: every call on them answers, and answers agree with one another and with Forward. */
public final class FullSizeTest {
    private static final Calls calls = new Calls();
    private static final int[] ODD = {Integer.MIN_VALUE, -61, -2, -1, 0, 1, 2, 4, 5, 6, 9, 10, 19, 20, 59, 60,
        240, 241, 1439, 1440, 2000, 2001, Integer.MAX_VALUE};

    private final Random random;
    private final DayProfiles x = new DayProfiles();

    public static void main(String[] args) {
        for (int seed = 1; seed <= 60; seed++) {
            FullSizeTest test = new FullSizeTest(seed);
            test.run(seed % 2 == 0 ? test.makeText() : test.makeFullText());
            if (seed <= 10) {
                oddArguments(test.x);
            }
        }
        oddArguments(new DayProfiles());
        calls.end();
    }

    private FullSizeTest(int seed) {
        random = new Random(seed);
    }

    private int below(int n) {
        return random.nextInt(n);
    }

    private void run(String text) {
        calls.due("lines", Calls.text(x, text) > 0 ? 1 : 0, 1);
        for (int round = 0; round < 4; round++) {
            agree();
            agreeWithForward();
            x.delay(below(x.count(2)), 0, below(60));
            x.cancel(below(x.count(2)), 0, 1 + below(3), true);
        }
    }

    private String makeText() {
        StringBuilder text = new StringBuilder();
        for (int s = 0; s < 10; s++) {
            text.append("stop ").append((char) ('a' + s)).append(' ').append(below(6)).append(';');
        }
        for (int w = 0; w < 4; w++) {
            int a = below(10);
            text.append("walk ").append((char) ('a' + a)).append(' ');
            text.append((char) ('a' + (a + 1 + below(9)) % 10)).append(' ').append(1 + below(40)).append(';');
        }
        int rides = 0;
        for (int t = 0; t < 20 && rides < 60 && text.length() < 840; t++) {
            int stop = below(10);
            int minute = below(300);
            text.append("trip ").append((char) ('a' + stop));
            for (int i = below(t == 0 ? 20 : 5); i >= 0 && rides < 60 && text.length() < 880; i--) {
                stop = (stop + 1 + below(9)) % 10;
                text.append(' ').append(minute).append(' ').append(minute + 5).append(' ').append((char) ('a' + stop));
                minute += 5 + below(10);
                rides++;
            }
            text.append(';');
        }
        return text.toString();
    }

    /** All that a text may have: ten stops, twelve walks, twenty trips, sixty rides. */
    private String makeFullText() {
        StringBuilder text = new StringBuilder();
        for (int s = 0; s < 10; s++) {
            text.append("stop ").append((char) ('a' + s)).append(' ').append(below(6)).append(';');
        }
        for (int w = 0; w < 12; w++) {
            int a = below(10);
            text.append("walk ").append((char) ('a' + a)).append(' ');
            text.append((char) ('a' + (a + 1 + below(9)) % 10)).append(' ').append(10 + below(90)).append(';');
        }
        for (int t = 0; t < 20; t++) {
            int stop = below(10);
            int minute = below(90);
            text.append("trip ").append((char) ('a' + stop));
            for (int i = 0; i < 3; i++) {
                stop = (stop + 1 + below(9)) % 10;
                text.append(' ').append(minute).append(' ').append(minute + 1 + below(2)).append(' ').append((char) ('a' + stop));
                minute += 2 + below(2);
            }
            text.append(';');
        }
        DayProfiles y = new DayProfiles();
        calls.due("lines", Calls.text(y, text.toString()), 42);
        for (int what = 0; what < 4; what++) {
            calls.due("count " + what, y.count(what), new int[] {10, 12, 20, 60}[what]);
        }
        return text.toString();
    }

    /** What one call answers must fit what others do. */
    private void agree() {
        for (int s = 0; s < 10; s++) {
            for (int t = 0; t < 10; t++) {
                if (s != t) {
                    agree(s, t);
                }
            }
        }
        int legs = 0;
        int used = 0;
        for (int t = 0; t < 10; t++) {
            for (int trip = 0; trip < x.count(2); trip++) {
                used += x.uses(trip, t);
            }
            for (int s = 0; s < 10; s++) {
                for (int i = 0; s != t && i < x.profile(s, t); i++) {
                    legs += x.at(s, t, i, 2) + 1;
                }
            }
        }
        // A TRIP left and taken again is one use for two LEGS.
        calls.due("uses " + used + " of legs " + legs, used <= legs && used * 2 >= legs ? 1 : 0, 1);
    }

    private void agree(int s, int t) {
        int size = x.profile(s, t);
        String pair = s + " to " + t + ": ";
        for (int i = 0; i < size; i++) {
            int dep = x.at(s, t, i, 0);
            int arr = x.at(s, t, i, 1);
            int changes = x.at(s, t, i, 2);
            if (dep <= 1439) {
                calls.due(pair + "earliest", x.earliest(s, t, dep, changes), arr);
                calls.due(pair + "fewest", x.fewest(s, t, dep, arr), changes);
            }
            if (x.latest(s, t, arr) < dep) {
                calls.due(pair + "latest", x.latest(s, t, arr), dep);
            }
            calls.due(pair + "legs", x.leg(s, t, i, changes, 0) >= 0 ? 1 : 0, 1);
            calls.due(pair + "no more legs", x.leg(s, t, i, changes + 1, 0), -2);
            calls.due(pair + "plan", x.planAs(s, t, i), changes + 1);
            if (dep <= 1439) {
                calls.due(pair + "plan goes", x.checked(s, t, dep, false, 2), arr);
                if (dep < 1439) {
                    calls.due(pair + "a minute later", x.checked(s, t, dep + 1, false, 1), 0);
                }
            }
            int minutes = x.waits(s, t, i, 0) + x.travels(s, t, i, 0) + x.travels(s, t, i, 1);
            calls.due(pair + "minutes", minutes, arr - dep);
        }
        int m = below(300);
        int e = x.earliest(s, t, m, 4);
        if (e >= 0) {
            calls.due(pair + "mean", x.mean(s, t, m, m + 1), e - m);
            calls.due(pair + "via", x.via(s, s, t, m), e);
            calls.due(pair + "meet", x.meet(s, t, m, 1) <= e ? 1 : 0, 1);
            int trip = below(x.count(2));
            int late = x.late(trip, s, t, m);
            if (late > 0) {
                calls.due(pair + "late by less", x.ifLate(trip, late - 1, s, t, m) <= e ? 1 : 0, 1);
                int then = x.ifLate(trip, late, s, t, m);
                calls.due(pair + "late", then == -2 || then > e ? 1 : 0, 1);
            }
        }
    }

    /** PROFILES and EARLIEST are what a search from STOP to STOP finds. */
    private void agreeWithForward() {
        int trip = below(x.count(2));
        int d = below(301) - 60;
        Forward now = new Forward(x, -1, 0);
        Forward later = new Forward(x, trip, d);
        Forward without = new Forward(x, -1, 0).without(trip);
        int s = below(10);
        List<List<int[]>> profiles = now.profiles(s);
        for (int t = 0; t < 10; t++) {
            String pair = s + " to " + t + ": ";
            List<int[]> rows = profiles.get(t);
            calls.due(pair + "profile", x.profile(s, t), s == t ? -1 : rows.size());
            for (int i = 0; i < rows.size(); i++) {
                agreeWithForward(now, s, t, i, rows.get(i));
            }
            int m = below(150);
            for (int k = 0; k <= 4; k++) {
                calls.due(pair + "earliest by " + k, x.earliest(s, t, m, k), orNone(now.earliest(s, t, m, k)));
            }
            calls.due(pair + "ifLate", x.ifLate(trip, d, s, t, m), orNone(later.earliest(s, t, m, 4)));
            if (s != t && x.missed(s, t, m, 0) == trip) {
                int e = without.earliest(s, t, m, 4);
                calls.due(pair + "missed", x.missed(s, t, m, 1), e >= Forward.INF ? -3 : e);
            }
        }
    }

    private void agreeWithForward(Forward now, int s, int t, int i, int[] row) {
        String name = s + " to " + t + ", " + i + ": ";
        for (int what = 0; what < 3; what++) {
            calls.due(name + "at " + what, x.at(s, t, i, what), row[what]);
        }
        int[] legs = now.unfolded(s, t, row);
        for (int l = 0; l < legs.length; l++) {
            calls.due(name + "leg " + l / 2, x.leg(s, t, i, l / 2, l % 2), legs[l]);
        }
    }

    private static int orNone(int minute) {
        return minute >= Forward.INF ? -2 : minute;
    }

    /** No argument makes a call throw but where the document says so. */
    private static void oddArguments(DayProfiles x) {
        for (int a : ODD) {
            x.fault(a);
            x.change(a);
            x.hub(a);
            x.count(a);
            for (int b : ODD) {
                int thrown = Calls.thrownBy(x, a, b);
                boolean ride = a >= 0 && a < x.count(3);
                calls.due("ride " + a + " " + b, thrown, !ride ? 1 : b < 0 || b > 8 ? 2 : 0);
                two(x, a, b);
                for (int c : ODD) {
                    three(x, a, b, c);
                    for (int d : ODD) {
                        four(x, a, b, c, d);
                    }
                }
            }
        }
        for (int a : ODD) {
            x.feed(a, a, a, a, a);
            x.text(a);
        }
    }

    private static void two(DayProfiles x, int a, int b) {
        x.walk(a, b);
        x.profile(a, b);
        x.uses(a, b);
        x.gap(a, b);
        x.slack(a, b);
        x.plan(a, b);
    }

    private static void three(DayProfiles x, int a, int b, int c) {
        x.delay(a, b, c);
        x.latest(a, b, c);
        x.reached(a, b, c);
        x.profileBy(a, b, c);
        x.quickest(a, b, c);
        x.next(a, b, c);
        x.breaks(a, b, c);
        x.planAs(a, b, c);
        x.cause(a, b, c);
        x.tooLate(a, b, c);
        x.spare(a, b, c);
        x.checked(a, b, c, a > b, c);
        x.board(a, b, c > 0, c);
        x.leg(a, b, c, c, 0);
        x.atBy(a, b, c, c, 1);
        x.ifLate(c, a, b, c, a);
        if (c % 5 == 0) {
            x.undo();
            x.planAnew();
        }
    }

    private static void four(DayProfiles x, int a, int b, int c, int d) {
        boolean cheap = a <= 10 && b <= 10;
        if (cheap) {
            x.at(a, b, c, d);
            x.earliest(a, b, c, d);
            x.costOfFewer(a, b, c, d);
            x.mean(a, b, c, d);
            x.missed(a, b, c, d);
            x.waits(a, b, c, d);
            x.meet(a, b, c, d);
            x.stay(a, b, c, d);
            x.fewest(a, b, c, d);
            x.travels(a, b, c, d);
            x.via(a, b, c, d);
        }
        if (c <= 20 && d == 1439) {
            x.late(c, a, b, d);
        }
        x.cancel(a, b, c, d > 0);
    }
}
