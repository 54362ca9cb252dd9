import java.util.ArrayList;
import java.util.Arrays;
import java.util.List;

/**
 * Ways of a full timetable, searched forward from STOP to STOP: by each number of CHANGES the least
 * minute at which one can get off at each STOP. Neither the class nor the Oracle goes that way.
 */
final class Forward {
    static final int INF = 1 << 28;
    private static final int CHANGES = 4;
    /** No RIDE comes later: 1439, a DELAY and a TRIP that is later than NOW. */
    private static final int LAST = 1439 + 240 + 240;

    private final int stops;
    private final int[] change;
    private final int[][] walk;
    private final int[] trip;
    private final int[] from;
    private final int[] to;
    private final int[] leaves;
    private final int[] comes;
    private final boolean[] off;

    /** The timetable of an object as of NOW, one TRIP d minutes later (NONE: no TRIP). */
    Forward(DayProfiles x, int later, int d) {
        stops = x.count(0);
        int rides = x.count(3);
        change = new int[stops];
        walk = new int[stops][stops];
        for (int a = 0; a < stops; a++) {
            change[a] = x.change(a);
            for (int b = 0; b < stops; b++) {
                walk[a][b] = x.walk(a, b) < 0 ? INF : x.walk(a, b);
            }
        }
        trip = new int[rides];
        from = new int[rides];
        to = new int[rides];
        leaves = new int[rides];
        comes = new int[rides];
        off = new boolean[rides];
        for (int r = 0; r < rides; r++) {
            trip[r] = x.ride(r, 0);
            from[r] = x.ride(r, 1);
            to[r] = x.ride(r, 2);
            leaves[r] = x.ride(r, 5) + (trip[r] == later ? d : 0);
            comes[r] = x.ride(r, 6) + (trip[r] == later ? d : 0);
            off[r] = x.ride(r, 7) == 1;
        }
    }

    Forward without(int gone) {
        for (int r = 0; r < trip.length; r++) {
            off[r] |= trip[r] == gone;
        }
        return this;
    }

    /** By CHANGES and STOP: the least minute at which one who can be on at a STOP at some minute gets off. */
    private int[][] search(int[] ready, int changes) {
        int[][] best = new int[changes + 1][];
        int[] can = ready;
        for (int c = 0; c <= changes; c++) {
            int[] minutes = new int[stops];
            Arrays.fill(minutes, INF);
            boolean on = false;
            for (int r = 0; r < trip.length; r++) {
                boolean stay = on && trip[r] == trip[r - 1];
                on = !off[r] && (stay || leaves[r] >= can[from[r]]);
                if (on) {
                    minutes[to[r]] = Math.min(minutes[to[r]], comes[r]);
                }
            }
            best[c] = minutes;
            can = new int[stops];
            for (int p = 0; p < stops; p++) {
                can[p] = ready[p];
                for (int q = 0; q < stops; q++) {
                    can[p] = Math.min(can[p], minutes[q] + (p == q ? change[p] : walk[q][p]));
                }
            }
        }
        return best;
    }

    private int[][] from(int s, int m, int changes) {
        int[] ready = new int[stops];
        for (int p = 0; p < stops; p++) {
            ready[p] = m + walk[s][p];
        }
        return search(ready, changes);
    }

    private int at(int[] minutes, int t) {
        int best = INF;
        for (int q = 0; q < stops; q++) {
            best = Math.min(best, minutes[q] + walk[q][t]);
        }
        return best;
    }

    /** The least ARR of JOURNEYS with DEP m or more; INF, if there is none. */
    int journey(int s, int t, int m, int changes) {
        return at(from(s, m, changes)[changes], t);
    }

    int earliest(int s, int t, int m, int changes) {
        return s == t ? m : Math.min(Math.min(INF, m + walk[s][t]), journey(s, t, m, changes));
    }

    /** By t: the rows DEP, ARR, CHANGES of the PROFILES from s. */
    List<List<int[]>> profiles(int s) {
        List<List<int[]>> profiles = new ArrayList<>();
        for (int t = 0; t < stops; t++) {
            profiles.add(new ArrayList<>());
        }
        int[][] now = from(s, 0, CHANGES);
        for (int m = 0; m <= LAST; m++) {
            int[][] then = from(s, m + 1, CHANGES);
            for (int t = 0; t < stops; t++) {
                // One with more CHANGES comes earlier, so the most CHANGES stand first.
                for (int c = CHANGES; c >= 0 && t != s; c--) {
                    int arr = at(now[c], t);
                    boolean fewer = c > 0 && at(now[c - 1], t) <= arr;
                    if (arr < INF && at(then[c], t) > arr && !fewer && walk[s][t] > arr - m) {
                        profiles.get(t).add(new int[] {m, arr, c});
                    }
                }
            }
            now = then;
        }
        return profiles;
    }

    /** The least row of LEGS of a row of the PROFILE. */
    int[] unfolded(int s, int t, int[] row) {
        int[] legs = new int[2 * row[2] + 2];
        int last = -1;
        for (int l = 0; l <= row[2]; l++) {
            boolean found = false;
            for (int on = 0; on < trip.length && !found; on++) {
                if (!canBeOn(s, row[0], last, on)) {
                    continue;
                }
                for (int end = on; end < trip.length && trip[end] == trip[on] && !off[end] && !found; end++) {
                    found = behind(end, t, row[2] - l) == row[1];
                    legs[2 * l] = on;
                    legs[2 * l + 1] = end;
                }
            }
            last = legs[2 * l + 1];
        }
        return legs;
    }

    private boolean canBeOn(int s, int dep, int last, int on) {
        if (off[on]) {
            return false;
        }
        if (last < 0) {
            return leaves[on] - walk[s][from[on]] == dep;
        }
        int way = to[last] == from[on] ? change[from[on]] : walk[to[last]][from[on]];
        return leaves[on] >= comes[last] + way;
    }

    /** Off a RIDE, when one comes to t by so many CHANGES more at most. */
    private int behind(int end, int t, int changes) {
        int best = comes[end] + walk[to[end]][t];
        if (changes > 0) {
            int[] ready = new int[stops];
            for (int p = 0; p < stops; p++) {
                ready[p] = comes[end] + (p == to[end] ? change[p] : walk[to[end]][p]);
            }
            best = Math.min(best, at(search(ready, changes - 1)[changes - 1], t));
        }
        return best;
    }
}
