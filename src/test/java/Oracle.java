import java.util.ArrayList;
import java.util.Arrays;
import java.util.Comparator;
import java.util.List;
import java.util.TreeSet;

/**
 * The document's words taken one by one, by listing every JOURNEY there is: slow, plain, and
 * made without a look at how the class works. For small timetables.
 */
final class Oracle {
    static final int INF = 1 << 28;

    int stops;
    int[] change;
    List<int[]> walks = new ArrayList<>();      // a, b, minutes
    List<int[]> rides = new ArrayList<>();      // trip, from, to, leaves, comes
    int trips;
    int[] late;
    boolean[] off;
    List<int[]> plan = new ArrayList<>();       // on, off
    private final List<int[]> undoneLate = new ArrayList<>();
    private final List<boolean[]> undoneOff = new ArrayList<>();
    private int[][] way;
    private List<int[]> rows;                   // on, off, on, off ..

    void begin() {
        late = new int[rides.size()];
        off = new boolean[rides.size()];
        way = new int[stops][stops];
        for (int[] row : way) {
            Arrays.fill(row, INF);
        }
        for (int a = 0; a < stops; a++) {
            way[a][a] = 0;
        }
        for (int round = 0; round < stops; round++) {
            for (int[] w : walks) {
                for (int a = 0; a < stops; a++) {
                    if (way[a][w[0]] + w[2] < way[a][w[1]]) {
                        way[a][w[1]] = way[a][w[0]] + w[2];
                    }
                    if (way[a][w[1]] + w[2] < way[a][w[0]]) {
                        way[a][w[0]] = way[a][w[1]] + w[2];
                    }
                }
            }
        }
        rows = null;
    }

    // ---- rides ----

    boolean stop(int s) {
        return s >= 0 && s < stops;
    }

    boolean two(int s, int t) {
        return stop(s) && stop(t) && s != t;
    }

    boolean minute(int m) {
        return m >= 0 && m <= 1439;
    }

    boolean ride(int r) {
        return r >= 0 && r < rides.size();
    }

    boolean trip(int t) {
        return t >= 0 && t < trips;
    }

    int leave(int r) {
        return rides.get(r)[3] + late[r];
    }

    int come(int r) {
        return rides.get(r)[4] + late[r];
    }

    int tripOf(int r) {
        return rides.get(r)[0];
    }

    int from(int r) {
        return rides.get(r)[1];
    }

    int to(int r) {
        return rides.get(r)[2];
    }

    List<Integer> ofTrip(int trip) {
        List<Integer> found = new ArrayList<>();
        for (int r = 0; r < rides.size(); r++) {
            if (tripOf(r) == trip) {
                found.add(r);
            }
        }
        return found;
    }

    private int between(int a, int b) {
        return a == b ? change[a] : way[a][b];
    }

    int rideAnswer(int i, int what) {
        switch (what) {
            case 5:
                return leave(i);
            case 6:
                return come(i);
            case 7:
                return off[i] ? 1 : 0;
            case 8:
                return i + 1 < rides.size() && tripOf(i + 1) == tripOf(i) ? i + 1 : -2;
            default:
                return rides.get(i)[what];
        }
    }

    int walk(int a, int b) {
        if (!stop(a) || !stop(b)) {
            return -1;
        }
        return way[a][b] >= INF ? -2 : way[a][b];
    }

    // ---- changes of NOW ----

    int delay(int trip, int j, int minutes) {
        if (!trip(trip) || j < 0 || j >= ofTrip(trip).size() || minutes < -60 || minutes > 240) {
            return -1;
        }
        List<Integer> own = ofTrip(trip);
        int[] was = late.clone();
        int others = 0;
        for (int i = j; i < own.size(); i++) {
            if (late[own.get(i)] != minutes) {
                others++;
            }
            late[own.get(i)] = minutes;
        }
        for (int i = 0; i < own.size(); i++) {
            boolean early = i > 0 && leave(own.get(i)) < come(own.get(i - 1));
            if (early || leave(own.get(i)) < 0 || come(own.get(i)) < 0) {
                late = was;
                return -2;
            }
        }
        if (others > 0) {
            push(was, off.clone());
        }
        return others;
    }

    int cancel(int trip, int j, int n, boolean cancelled) {
        if (!trip(trip) || j < 0 || j >= ofTrip(trip).size() || n < 1) {
            return -1;
        }
        List<Integer> own = ofTrip(trip);
        boolean[] was = off.clone();
        int others = 0;
        for (int i = j; i < own.size() && i - j < n; i++) {
            if (off[own.get(i)] != cancelled) {
                others++;
            }
            off[own.get(i)] = cancelled;
        }
        if (others > 0) {
            push(late.clone(), was);
        }
        return others;
    }

    private void push(int[] lateThen, boolean[] offThen) {
        undoneLate.add(lateThen);
        undoneOff.add(offThen);
        if (undoneLate.size() > 20) {
            undoneLate.remove(0);
            undoneOff.remove(0);
        }
        rows = null;
    }

    int undo() {
        if (undoneLate.isEmpty()) {
            return -1;
        }
        late = undoneLate.remove(undoneLate.size() - 1);
        off = undoneOff.remove(undoneOff.size() - 1);
        rows = null;
        return undoneLate.size();
    }

    // ---- journeys ----

    /** Every row of LEGS that goes, of five LEGS at most. */
    private List<int[]> rows() {
        if (rows == null) {
            rows = new ArrayList<>();
            for (int r = 0; r < rides.size(); r++) {
                if (!off[r]) {
                    on(new int[0], r);
                }
            }
        }
        return rows;
    }

    private void on(int[] ahead, int on) {
        for (int end = on; ; end++) {
            int[] row = Arrays.copyOf(ahead, ahead.length + 2);
            row[ahead.length] = on;
            row[ahead.length + 1] = end;
            rows.add(row);
            if (row.length < 10) {
                for (int r = 0; r < rides.size(); r++) {
                    if (!off[r] && leave(r) >= come(end) + between(to(end), from(r))) {
                        on(row, r);
                    }
                }
            }
            if (end + 1 >= rides.size() || tripOf(end + 1) != tripOf(on) || off[end + 1]) {
                return;
            }
        }
    }

    private int dep(int[] row, int s) {
        return way[s][from(row[0])] >= INF ? -1 : leave(row[0]) - way[s][from(row[0])];
    }

    private int arr(int[] row, int t) {
        int end = row[row.length - 1];
        return way[to(end)][t] >= INF ? INF : come(end) + way[to(end)][t];
    }

    private static int changes(int[] row) {
        return row.length / 2 - 1;
    }

    /** DEP, ARR, CHANGES. */
    List<int[]> profile(int s, int t, int k) {
        TreeSet<int[]> all = new TreeSet<>(Comparator.<int[]>comparingInt(x -> x[0])
            .thenComparingInt(x -> x[1]).thenComparingInt(x -> x[2]));
        for (int[] row : rows()) {
            if (dep(row, s) >= 0 && arr(row, t) < INF && changes(row) <= k) {
                all.add(new int[] {dep(row, s), arr(row, t), changes(row)});
            }
        }
        List<int[]> good = new ArrayList<>();
        for (int[] x : all) {
            boolean beaten = way[s][t] <= x[1] - x[0];
            for (int[] y : all) {
                if (y != x && y[0] >= x[0] && y[1] <= x[1] && y[2] <= x[2]) {
                    beaten = true;
                }
            }
            if (!beaten) {
                good.add(x);
            }
        }
        return good;
    }

    int[] unfolded(int s, int t, int[] triple) {
        int[] best = null;
        for (int[] row : rows()) {
            boolean alike = dep(row, s) == triple[0] && arr(row, t) == triple[1] && changes(row) == triple[2];
            if (alike && (best == null || Arrays.compare(row, best) < 0)) {
                best = row;
            }
        }
        return best;
    }

    int earliest(int s, int t, int m, int k) {
        int best = way[s][t] >= INF ? INF : m + way[s][t];
        for (int[] row : rows()) {
            if (dep(row, s) >= m && changes(row) <= k) {
                best = Math.min(best, arr(row, t));
            }
        }
        return s == t ? m : best;
    }

    int latest(int s, int t, int m) {
        if (s == t) {
            return m;
        }
        int best = way[s][t] <= m ? m - way[s][t] : -2;
        for (int[] row : rows()) {
            if (dep(row, s) >= 0 && arr(row, t) <= m) {
                best = Math.max(best, dep(row, s));
            }
        }
        return best;
    }

    private int fewestChanges(int s, int t, int m, int z) {
        if (m + way[s][t] <= z) {
            return 0;
        }
        int best = INF;
        for (int[] row : rows()) {
            if (dep(row, s) >= m && arr(row, t) <= z) {
                best = Math.min(best, changes(row));
            }
        }
        return best == INF ? -2 : best;
    }

    /** The same timetable with a TRIP later, or without it. */
    private Oracle with(int trip, int d, boolean without) {
        Oracle o = new Oracle();
        o.stops = stops;
        o.change = change;
        o.rides = rides;
        o.trips = trips;
        o.way = way;
        o.late = late.clone();
        o.off = off.clone();
        for (int r : ofTrip(trip)) {
            o.late[r] += d;
            o.off[r] |= without;
        }
        return o;
    }

    static int two(int minute) {
        return minute >= INF ? -2 : minute;
    }

    // ---- what the calls answer ----

    int at(int s, int t, int k, int i, int what) {
        if (!two(s, t) || k < 0 || k > 4 || i < 0 || what < 0 || what > 2) {
            return -1;
        }
        List<int[]> p = profile(s, t, k);
        return i >= p.size() ? -2 : p.get(i)[what];
    }

    int[] unfoldedAt(int s, int t, int i) {
        List<int[]> p = profile(s, t, 4);
        return i >= p.size() ? null : unfolded(s, t, p.get(i));
    }

    int leg(int s, int t, int i, int l, int what) {
        if (!two(s, t) || i < 0 || l < 0 || what < 0 || what > 1) {
            return -1;
        }
        int[] row = unfoldedAt(s, t, i);
        return row == null || l > changes(row) ? -2 : row[2 * l + what];
    }

    private int on(int[] row) {
        int sum = 0;
        for (int l = 0; l < row.length; l += 2) {
            sum += come(row[l + 1]) - leave(row[l]);
        }
        return sum;
    }

    private int walked(int[] row, int s, int t) {
        int sum = way[s][from(row[0])];
        for (int l = 2; l < row.length; l += 2) {
            sum += way[to(row[l - 1])][from(row[l])];
        }
        return sum + way[to(row[row.length - 1])][t];
    }

    int waits(int s, int t, int i, int what) {
        if (!two(s, t) || i < 0 || what < 0 || what > 1) {
            return -1;
        }
        int[] row = unfoldedAt(s, t, i);
        if (row == null) {
            return -2;
        }
        if (what == 0) {
            return arr(row, t) - dep(row, s) - on(row) - walked(row, s, t);
        }
        int least = INF;
        for (int l = 2; l < row.length; l += 2) {
            least = Math.min(least, leave(row[l]) - come(row[l - 1]) - between(to(row[l - 1]), from(row[l])));
        }
        return two(least);
    }

    int travels(int s, int t, int i, int what) {
        if (!two(s, t) || i < 0 || what < 0 || what > 2) {
            return -1;
        }
        int[] row = unfoldedAt(s, t, i);
        if (row == null) {
            return -2;
        }
        int number = 0;
        for (int l = 0; l < row.length; l += 2) {
            number += row[l + 1] - row[l] + 1;
        }
        return what == 0 ? on(row) : what == 1 ? walked(row, s, t) : number;
    }

    int gap(int s, int t) {
        if (!two(s, t)) {
            return -1;
        }
        TreeSet<Integer> deps = new TreeSet<>();
        for (int[] x : profile(s, t, 4)) {
            deps.add(x[0]);
        }
        int greatest = -2;
        for (int d : deps) {
            if (deps.higher(d) != null) {
                greatest = Math.max(greatest, deps.higher(d) - d);
            }
        }
        return greatest;
    }

    int quickest(int s, int t, int what) {
        if (!two(s, t) || what < 0 || what > 1) {
            return -1;
        }
        List<int[]> p = profile(s, t, 4);
        int best = -2;
        for (int i = 0; i < p.size(); i++) {
            if (best < 0 || p.get(i)[1] - p.get(i)[0] < p.get(best)[1] - p.get(best)[0]) {
                best = i;
            }
        }
        return best < 0 || what == 0 ? best : p.get(best)[1] - p.get(best)[0];
    }

    int uses(int trip, int t) {
        if (!trip(trip) || !stop(t)) {
            return -1;
        }
        int counted = 0;
        for (int s = 0; s < stops; s++) {
            if (s != t) {
                for (int[] x : profile(s, t, 4)) {
                    boolean has = false;
                    for (int r : unfolded(s, t, x)) {
                        has |= tripOf(r) == trip;
                    }
                    counted += has ? 1 : 0;
                }
            }
        }
        return counted;
    }

    int breaks(int trip, int d, int t) {
        if (!trip(trip) || !stop(t) || d < 1 || d > 240) {
            return -1;
        }
        Oracle o = with(trip, d, false);
        int counted = 0;
        for (int s = 0; s < stops; s++) {
            if (s != t) {
                for (int[] x : profile(s, t, 4)) {
                    int[] row = unfolded(s, t, x);
                    boolean broken = false;
                    for (int l = 2; l < row.length; l += 2) {
                        int ready = o.come(row[l - 1]) + between(to(row[l - 1]), from(row[l]));
                        broken |= ready > o.leave(row[l]);
                    }
                    counted += broken ? 1 : 0;
                }
            }
        }
        return counted;
    }

    int hub(int what) {
        if (what < 0 || what > 1) {
            return -1;
        }
        int[] ends = new int[stops];
        for (int s = 0; s < stops; s++) {
            for (int t = 0; t < stops; t++) {
                if (s != t) {
                    for (int[] x : profile(s, t, 4)) {
                        int[] row = unfolded(s, t, x);
                        for (int l = 1; l < row.length - 1; l += 2) {
                            ends[to(row[l])]++;
                        }
                    }
                }
            }
        }
        int best = -2;
        for (int a = 0; a < stops; a++) {
            if (ends[a] > 0 && (best < 0 || ends[a] > ends[best])) {
                best = a;
            }
        }
        return best < 0 || what == 0 ? best : ends[best];
    }

    int earliestAnswer(int s, int t, int m, int k) {
        if (!stop(s) || !stop(t) || !minute(m) || k < 0 || k > 4) {
            return -1;
        }
        return two(earliest(s, t, m, k));
    }

    int latestAnswer(int s, int t, int m) {
        return !stop(s) || !stop(t) || m < 0 || m > 2000 ? -1 : latest(s, t, m);
    }

    int reached(int s, int m, int n) {
        if (!stop(s) || !minute(m) || n < 0 || n > 2000) {
            return -1;
        }
        int bits = 0;
        for (int t = 0; t < stops; t++) {
            if (earliest(s, t, m, 4) <= m + n) {
                bits |= 1 << t;
            }
        }
        return bits;
    }

    int costOfFewer(int s, int t, int m, int k) {
        if (!two(s, t) || !minute(m) || k < 1 || k > 4 || earliest(s, t, m, k) >= INF) {
            return -1000;
        }
        int fewer = earliest(s, t, m, k - 1);
        return fewer >= INF ? 5000 : fewer - earliest(s, t, m, k);
    }

    int mean(int s, int t, int a, int b) {
        if (!two(s, t) || a < 0 || a >= b || b > 1440) {
            return -1;
        }
        long sum = 0;
        int minutes = 0;
        for (int m = a; m < b; m++) {
            int e = earliest(s, t, m, 4);
            if (e < INF) {
                sum += e - m;
                minutes++;
            }
        }
        return minutes == 0 ? -2 : (int) (sum / minutes);
    }

    int late(int trip, int s, int t, int m) {
        if (!trip(trip) || !two(s, t) || !minute(m)) {
            return -1;
        }
        int e = earliest(s, t, m, 4);
        if (e >= INF) {
            return -3;
        }
        for (int d = 1; d <= 240; d++) {
            if (with(trip, d, false).earliest(s, t, m, 4) > e) {
                return d;
            }
        }
        return -2;
    }

    int missed(int s, int t, int m, int what) {
        if (!two(s, t) || !minute(m) || what < 0 || what > 1) {
            return -1;
        }
        if (earliest(s, t, m, 4) >= INF) {
            return -2;
        }
        int best = -2;
        int latest = -1;
        for (int trip = 0; trip < trips; trip++) {
            boolean goes = false;
            for (int r : ofTrip(trip)) {
                goes |= !off[r];
            }
            if (goes) {
                int e = with(trip, 0, true).earliest(s, t, m, 4);
                if (e > latest) {
                    latest = e;
                    best = trip;
                }
            }
        }
        return best < 0 || what == 0 ? best : latest >= INF ? -3 : latest;
    }

    int ifLate(int trip, int d, int s, int t, int m) {
        if (!trip(trip) || d < -60 || d > 240 || !stop(s) || !stop(t) || !minute(m)) {
            return -1;
        }
        return two(with(trip, d, false).earliest(s, t, m, 4));
    }

    int fewest(int s, int t, int m, int z) {
        return !two(s, t) || !minute(m) || z < 0 || z > 2000 ? -1 : fewestChanges(s, t, m, z);
    }

    int next(int s, int t, int m) {
        if (!two(s, t) || !minute(m)) {
            return -1;
        }
        int e = earliest(s, t, m, 4);
        int last = -1;
        for (int[] row : rows()) {
            if (e < INF && dep(row, s) >= m && arr(row, t) == e) {
                last = Math.max(last, dep(row, s));
            }
        }
        int best = INF;
        for (int[] row : rows()) {
            if (last >= 0 && dep(row, s) > last) {
                best = Math.min(best, arr(row, t));
            }
        }
        return two(best);
    }

    int meet(int a, int b, int m, int what) {
        if (!stop(a) || !stop(b) || !minute(m) || what < 0 || what > 1) {
            return -1;
        }
        int best = -2;
        int least = INF;
        for (int t = 0; t < stops; t++) {
            int e = Math.max(earliest(a, t, m, 4), earliest(b, t, m, 4));
            if (e < least) {
                least = e;
                best = t;
            }
        }
        return best < 0 || what == 0 ? best : least;
    }

    int via(int s, int v, int t, int m) {
        if (!stop(s) || !stop(v) || !stop(t) || !minute(m)) {
            return -1;
        }
        int e = earliest(s, v, m, 4);
        return e >= INF ? -2 : two(earliest(v, t, e, 4));
    }

    int stay(int s, int t, int m, int z) {
        if (!two(s, t) || !minute(m) || z < 0 || z > 2000) {
            return -1;
        }
        int e = earliest(s, t, m, 4);
        int l = latest(t, s, z);
        return e >= INF || l < 0 ? -2 : l < e ? -3 : l - e;
    }

    int board(int stop, int m, boolean coming, int i) {
        if (!stop(stop) || !minute(m) || i < 0) {
            return -1;
        }
        List<Integer> found = new ArrayList<>();
        for (int r = 0; r < rides.size(); r++) {
            if (!off[r] && (coming ? to(r) : from(r)) == stop && (coming ? come(r) : leave(r)) >= m) {
                found.add(r);
            }
        }
        found.sort(Comparator.<Integer>comparingInt(r -> coming ? come(r) : leave(r)).thenComparingInt(r -> r));
        return i >= found.size() ? -2 : found.get(i);
    }

    int slack(int a, int b) {
        if (!ride(a) || !ride(b) || off[a] || off[b] || between(to(a), from(b)) >= INF) {
            return -1000;
        }
        return leave(b) - (come(a) + between(to(a), from(b)));
    }

    // ---- the plan ----

    int plan(int on, int end) {
        if (!ride(on) || !ride(end)) {
            return -1;
        }
        if (tripOf(on) != tripOf(end) || end < on) {
            return -2;
        }
        if (plan.size() == 6) {
            return -3;
        }
        plan.add(new int[] {on, end});
        return plan.size();
    }

    int planAs(int s, int t, int i) {
        if (!two(s, t) || i < 0) {
            return -1;
        }
        int[] row = unfoldedAt(s, t, i);
        if (row == null) {
            return -2;
        }
        plan.clear();
        for (int l = 0; l < row.length; l += 2) {
            plan.add(new int[] {row[l], row[l + 1]});
        }
        return plan.size();
    }

    private int toldOr(int r, boolean asTold, boolean comes) {
        return rides.get(r)[comes ? 4 : 3] + (asTold ? 0 : late[r]);
    }

    /** When one can be there for LEG l. */
    private int there(int l, int s, int m, boolean asTold) {
        int stop = from(plan.get(l)[0]);
        if (l == 0) {
            return way[s][stop] >= INF ? INF : m + way[s][stop];
        }
        int end = plan.get(l - 1)[1];
        return between(to(end), stop) >= INF ? INF : toldOr(end, asTold, true) + between(to(end), stop);
    }

    /** The reason, the LEG, ARR, the least to spare. */
    private int[] check(int s, int t, int m, boolean asTold) {
        int spare = INF;
        for (int l = 0; l < plan.size(); l++) {
            for (int r = plan.get(l)[0]; r <= plan.get(l)[1]; r++) {
                if (off[r] && !asTold) {
                    return new int[] {1, l, -2, -2};
                }
            }
            int left = toldOr(plan.get(l)[0], asTold, false) - there(l, s, m, asTold);
            if (left < 0) {
                return new int[] {2, l, -2, -2};
            }
            spare = Math.min(spare, left);
        }
        int end = plan.get(plan.size() - 1)[1];
        if (way[to(end)][t] >= INF) {
            return new int[] {3, plan.size(), -2, -2};
        }
        return new int[] {0, -2, toldOr(end, asTold, true) + way[to(end)][t], spare};
    }

    int checked(int s, int t, int m, boolean asTold, int what) {
        if (!stop(s) || !stop(t) || !minute(m) || what < 0 || what > 2) {
            return -1;
        }
        return plan.isEmpty() ? -3 : check(s, t, m, asTold)[what];
    }

    int cause(int s, int t, int m) {
        if (!stop(s) || !stop(t) || !minute(m)) {
            return -1;
        }
        if (plan.isEmpty() || check(s, t, m, false)[0] != 2) {
            return -2;
        }
        int leg = check(s, t, m, false)[1];
        if (there(leg, s, m, true) > toldOr(plan.get(leg)[0], true, false)) {
            return -3;
        }
        for (int l = leg - 1; l >= 0; l--) {
            if (late[plan.get(l)[1]] != 0) {
                return l;
            }
        }
        return leg;
    }

    int tooLate(int s, int t, int m) {
        if (!stop(s) || !stop(t) || !minute(m)) {
            return -1;
        }
        if (plan.isEmpty() || check(s, t, m, false)[0] != 2) {
            return -2;
        }
        int leg = check(s, t, m, false)[1];
        int there = there(leg, s, m, false);
        return there >= INF ? -2 : there - leave(plan.get(leg)[0]);
    }

    int spare(int s, int t, int m) {
        if (!stop(s) || !stop(t) || !minute(m)) {
            return -1;
        }
        return plan.isEmpty() ? -2 : check(s, t, m, false)[3];
    }

    int count(int what) {
        switch (what) {
            case 0:
                return stops;
            case 1:
                return walks.size();
            case 2:
                return trips;
            case 3:
                return rides.size();
            case 4:
                int cancelled = 0;
                for (boolean x : off) {
                    cancelled += x ? 1 : 0;
                }
                return cancelled;
            case 5:
                int shifted = 0;
                for (int x : late) {
                    shifted += x != 0 ? 1 : 0;
                }
                return shifted;
            case 6:
                return plan.size();
            case 7:
                return undoneLate.size();
            default:
                return -1;
        }
    }
}
