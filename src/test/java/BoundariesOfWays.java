/** Terms 3 and the promises of ways: 14 to 21, 28 to 33, 35. */
final class BoundariesOfWays {
    private static final int LEAST = Integer.MIN_VALUE;
    private static final int MOST = Integer.MAX_VALUE;
    private static final int[] NO_STOP = {-1, 3, 10, LEAST, MOST};
    private static final int[] NO_TRIP = {-1, 4, 20, LEAST, MOST};
    private static final int[] NO_MINUTE = {-1, 1440, 2000, LEAST, MOST};
    private static final int[] NO_LIMIT = {-1, 2001, LEAST, MOST};
    private static final int[] NO_WHAT = {-1, 2, LEAST, MOST};
    private static final int[] STOPS = {0, 1, 2};
    private static final String SMALL = BoundariesOfProfiles.SMALL;
    private static final String ROW = BoundariesOfProfiles.ROW;
    private static final String AB = "stop a 0;stop b 0;stop c 0;";

    private final Sentences doc;

    BoundariesOfWays(Sentences doc) {
        this.doc = doc;
    }

    void run() {
        earliest();
        latest();
        reached();
        costOfFewer();
        mean();
        late();
        missed();
        ifLate();
        meet();
        via();
        stay();
        board();
        slack();
        fewest();
        next();
    }

    private void earliest() {
        DayProfiles x = doc.read(SMALL);
        doc.in("Terms 3");
        doc.says("EARLIEST from s at minute m to t by k CHANGES at most: the least ARR of JOURNEYS with DEP m or more, or of WALKING at m");
        doc.due("DEP is m", x.earliest(0, 2, 100, 4), 140);
        doc.due("DEP is more", x.earliest(0, 2, 0, 4), 140);
        doc.due("DEP is less", x.earliest(0, 2, 101, 4), 160);
        doc.due("by none", x.earliest(0, 2, 100, 0), 150);
        doc.due("by one", x.earliest(0, 2, 100, 1), 140);
        DayProfiles walk = doc.read(AB + "walk a b 10;trip a 5 15 b;trip a 30 39 b;trip a 50 61 b;");
        doc.due("a ride comes first", walk.earliest(0, 1, 30, 0), 39);
        doc.due("a ride comes as soon", walk.earliest(0, 1, 29, 0), 39);
        doc.due("walking comes first", walk.earliest(0, 1, 28, 0), 38);
        doc.due("walking comes first", walk.earliest(0, 1, 50, 4), 60);
        DayProfiles row = doc.read(ROW);
        for (int k = 0; k <= 4; k++) {
            doc.due("by " + k, row.earliest(0, k + 1, 10, k), 11 + 2 * k);
            doc.due("one more than " + k, row.earliest(0, k + 2, 10, k), -2);
        }
        doc.in("Promise 14");
        doc.says("EARLIEST from s at minute m (0 .. 1439) to t by k (0 .. 4) CHANGES");
        doc.due("0", x.earliest(0, 2, 0, 0), 150);
        doc.due("1439, walking", x.earliest(1, 2, 1439, 4), 1469);
        x.delay(2, 0, 240);
        doc.due("NOW", x.earliest(0, 2, 101, 0), 400);
        DayProfiles y = doc.read(AB + "trip a 1438 1439 b;");
        y.delay(0, 0, 1);
        doc.due("1439, by a ride", y.earliest(0, 1, 1439, 0), 1440);
        doc.says("m, if s is t");
        doc.each("0 to 1439", 0, m -> x.earliest(2, 2, m, 0) - m, 0, 1, 720, 1439);
        doc.says("-2: there is no way");
        doc.due("too late", x.earliest(0, 1, 351, 4), -2);
        doc.due("not by so few", row.earliest(0, 5, 10, 3), -2);
        doc.due("never", x.earliest(2, 0, 127, 4), -2);
        doc.says("NONE: no such ones");
        doc.each("no such s", -1, s -> x.earliest(s, 2, 100, 4), NO_STOP);
        doc.each("no such t", -1, t -> x.earliest(0, t, 100, 4), NO_STOP);
        doc.each("no such ones, the same", -1, s -> x.earliest(s, s, 100, 4), NO_STOP);
        doc.each("no such m", -1, m -> x.earliest(0, 2, m, 4), NO_MINUTE);
        doc.each("no such m, the same", -1, m -> x.earliest(1, 1, m, 4), NO_MINUTE);
        doc.each("no such k", -1, k -> x.earliest(0, 2, 100, k), -1, 5, LEAST, MOST);
        doc.each("no such k, the same", -1, k -> x.earliest(1, 1, 100, k), -1, 5, LEAST, MOST);
    }

    private void latest() {
        doc.in("Terms 3");
        doc.says("LATEST from s to t till minute m: the greatest DEP of JOURNEYS with ARR m or less (4 CHANGES),"
            + " or of WALKING (m less the WALK, 0 at least)");
        DayProfiles x = doc.read(SMALL);
        doc.due("ARR is m", x.latest(0, 2, 140), 100);
        doc.due("ARR is less", x.latest(0, 2, 159), 100);
        doc.due("ARR is m", x.latest(0, 2, 160), 110);
        doc.due("ARR is more", x.latest(0, 2, 139), -2);
        doc.due("walking at 0", x.latest(1, 2, 30), 0);
        doc.due("walking below 0", x.latest(1, 2, 29), -2);
        doc.due("a ride leaves later than walking", x.latest(1, 2, 140), 130);
        doc.due("walking leaves later than a ride", x.latest(1, 2, 161), 131);
        DayProfiles row = doc.read(ROW);
        doc.due("four changes", row.latest(0, 5, 2000), 10);
        doc.due("five changes", row.latest(0, 6, 2000), -2);
        DayProfiles zero = doc.read(AB + "walk a c 5;trip c 5 6 b;trip c 4 5 b;");
        doc.due("a journey from 0 on", zero.latest(0, 1, 6), 0);
        doc.due("none below 0", zero.latest(0, 1, 5), -2);
        DayProfiles longer = doc.read(AB + "trip a 10 90 b;trip a 20 50 b;trip a 30 80 b;");
        doc.due("the greatest DEP", longer.latest(0, 1, 2000), 30);
        doc.due("the greatest DEP", longer.latest(0, 1, 79), 20);
        doc.in("Promise 15");
        doc.says("LATEST till minute m (0 .. 2000)");
        doc.due("2000", x.latest(1, 2, 2000), 1970);
        doc.due("0", x.latest(1, 2, 0), -2);
        doc.says("m, if s is t");
        doc.each("0 to 2000", 0, m -> x.latest(1, 1, m) - m, 0, 1, 1439, 1440, 2000);
        doc.says("-2: there is none");
        doc.due("none", x.latest(2, 0, 134), -2);
        doc.says("NONE: no such ones");
        doc.each("no such s", -1, s -> x.latest(s, 2, 100), NO_STOP);
        doc.each("no such t", -1, t -> x.latest(0, t, 100), NO_STOP);
        doc.each("no such ones, the same", -1, s -> x.latest(s, s, 100), NO_STOP);
        doc.each("no such m", -1, m -> x.latest(1, 2, m), NO_LIMIT);
        doc.each("no such m, the same", -1, m -> x.latest(1, 1, m), NO_LIMIT);
    }

    private void reached() {
        DayProfiles x = doc.read(SMALL);
        doc.in("Terms 3");
        doc.says("REACHED from s at minute m in n minutes: STOPS t with EARLIEST (4 CHANGES) m and n or less (s, too)");
        doc.due("just so", x.reached(0, 100, 40), 7);
        doc.due("one less", x.reached(0, 100, 39), 3);
        doc.due("only s", x.reached(0, 100, 19), 1);
        doc.due("walking", x.reached(2, 100, 30), 6);
        doc.due("walking, one less", x.reached(2, 100, 29), 4);
        doc.due("four changes", doc.read(ROW).reached(0, 10, 2000), 63);
        doc.in("Promise 16");
        doc.says("REACHED from s at minute m (0 .. 1439) in n (0 .. 2000) minutes, as bits");
        doc.due("0, 0", x.reached(1, 0, 0), 2);
        doc.due("1439, 2000", x.reached(1, 1439, 2000), 6);
        doc.due("0, 2000", x.reached(0, 0, 2000), 7);
        doc.due("ten stops", doc.read("stop a 0;stop b 0;stop c 0;stop d 0;stop e 0;stop f 0;stop g 0;stop h 0;stop i 0;stop j 0;"
            + "walk a j 1;").reached(9, 5, 1), 513);
        doc.says("NONE: no such ones");
        doc.each("no such s", -1, s -> x.reached(s, 100, 40), NO_STOP);
        doc.each("no such m", -1, m -> x.reached(0, m, 40), NO_MINUTE);
        doc.each("no such n", -1, n -> x.reached(0, 100, n), NO_LIMIT);
    }

    private void costOfFewer() {
        DayProfiles x = doc.read(SMALL);
        DayProfiles row = doc.read(ROW + "trip a 10 99 f;");
        doc.in("Promise 17");
        doc.says("How many minutes later EARLIEST is by k less 1 CHANGES than by k (1 .. 4)");
        doc.due("1", x.costOfFewer(0, 2, 100, 1), 10);
        doc.each("2 to 4", 0, k -> x.costOfFewer(0, 2, 100, k), 2, 3, 4);
        doc.due("4", row.costOfFewer(0, 5, 10, 4), 80);
        doc.due("3", row.costOfFewer(0, 5, 10, 3), 0);
        doc.says("-1000: no such ones, one and the same, there is no way with k");
        doc.each("no such s", -1000, s -> x.costOfFewer(s, 2, 100, 1), NO_STOP);
        doc.each("no such t", -1000, t -> x.costOfFewer(0, t, 100, 1), NO_STOP);
        doc.each("the same", -1000, s -> x.costOfFewer(s, s, 100, 1), STOPS);
        doc.each("no such m", -1000, m -> x.costOfFewer(0, 2, m, 1), NO_MINUTE);
        doc.each("no such k", -1000, k -> x.costOfFewer(0, 2, 100, k), 0, 5, -1, LEAST, MOST);
        doc.each("no way", -1000, k -> x.costOfFewer(0, 2, 111, k), 1, 2, 3, 4);
        doc.each("no way with k", -1000, k -> row.costOfFewer(0, 4, 10, k), 1, 2);
        doc.says("5000: there is none with fewer");
        doc.due("by three only", row.costOfFewer(0, 4, 10, 3), 5000);
        doc.due("by one only", row.costOfFewer(0, 2, 10, 1), 5000);
        doc.due("by two as by one", row.costOfFewer(0, 2, 10, 2), 0);
    }

    private void mean() {
        DayProfiles x = doc.read(SMALL);
        doc.in("Terms 3");
        doc.says("MEAN from s to t from minute a to minute b, a below b: for each minute from a to b less 1 EARLIEST (4 CHANGES) less that minute,"
            + " together by how many minutes, downwards");
        doc.due("41, 40", x.mean(0, 2, 99, 101), 40);
        doc.due("42, 41, 40", x.mean(0, 2, 98, 101), 41);
        doc.due("40, 59", x.mean(0, 2, 100, 102), 49);
        doc.due("40 alone: b isn't asked", x.mean(0, 2, 100, 101), 40);
        doc.due("four changes", doc.read(ROW).mean(0, 5, 10, 11), 9);
        doc.due("walking and a ride", doc.read(AB + "walk a b 10;trip a 5 9 b;").mean(0, 1, 0, 7), (9 + 8 + 7 + 6 + 5 + 4 + 10) / 7);
        doc.says("minutes from which there is no way are left out");
        doc.due("50, none", x.mean(0, 2, 110, 112), 50);
        doc.due("51, 50, none", x.mean(0, 2, 109, 1440), 50);
        doc.in("Promise 18");
        doc.says("MEAN; -2: from no minute is there a way");
        doc.due("none", x.mean(0, 2, 111, 112), -2);
        doc.due("none", x.mean(0, 2, 111, 1440), -2);
        doc.due("never", x.mean(2, 0, 127, 1440), -2);
        doc.says("NONE: no such ones, one and the same (0 <= a < b <= 1440)");
        doc.due("the day, walking", x.mean(2, 1, 0, 1440), 30);
        doc.due("the last minute", x.mean(2, 1, 1439, 1440), 30);
        doc.each("no such s", -1, s -> x.mean(s, 2, 0, 9), NO_STOP);
        doc.each("no such t", -1, t -> x.mean(0, t, 0, 9), NO_STOP);
        doc.each("the same", -1, s -> x.mean(s, s, 0, 9), STOPS);
        doc.each("no such a", -1, a -> x.mean(0, 2, a, 9), -1, 9, 10, LEAST, MOST);
        doc.each("no such b", -1, b -> x.mean(0, 2, 0, b), 0, -1, 1441, LEAST, MOST);
        doc.due("a is 1440", x.mean(0, 2, 1440, 1441), -1);
        doc.due("a is b", x.mean(0, 2, 1440, 1440), -1);
        doc.due("ahead of -2", x.mean(0, 2, 111, 1441), -1);
    }

    private void late() {
        DayProfiles x = doc.read(SMALL);
        doc.in("Terms 3");
        doc.says("LATE of a TRIP for s, m, t: the fewest minutes (1 .. 240) by which, were all of its RIDES that much later than NOW,"
            + " EARLIEST (4 CHANGES) would be later");
        doc.due("at once", x.late(1, 0, 2, 100), 1);
        doc.due("the change is missed", x.late(0, 0, 2, 100), 6);
        x.delay(0, 0, 2);
        doc.due("than NOW", x.late(0, 0, 2, 100), 4);
        DayProfiles far = doc.read(AB + "trip a 10 20 b;trip b 259 261 c;trip a 5 6 c;");
        doc.due("240: no way any more", far.late(0, 0, 2, 6), 240);
        far.delay(1, 0, 1);
        doc.due("as late as 240", far.late(0, 0, 2, 6), -2);
        DayProfiles other = doc.read(AB + "trip a 10 20 b;trip a 9 23 b;");
        doc.due("another one is later", other.late(0, 0, 1, 9), 1);
        doc.due("till another one is as good", doc.read(AB + "trip a 10 20 b;trip a 9 20 b;").late(0, 0, 1, 9), -2);
        DayProfiles first = doc.read(AB + "trip a 10 20 b;trip b 20 30 c;trip b 24 30 c;trip a 11 40 c;");
        doc.due("one may take the other", first.late(0, 0, 2, 10), 5);
        doc.in("Promise 19");
        doc.says("LATE of a TRIP for s at minute m to t; -3: there is no way (ahead of -2)");
        doc.due("no way", x.late(2, 0, 2, 111), -3);
        doc.due("no way, the trip is nothing to it", x.late(3, 0, 1, 1439), -3);
        doc.says("-2: it may be as late as 240");
        doc.due("not in use", x.late(3, 0, 2, 100), -2);
        doc.due("walking", x.late(1, 1, 2, 200), -2);
        x.cancel(1, 0, 1, true);
        doc.due("cancelled", x.late(1, 0, 2, 100), -2);
        doc.says("NONE: no such ones, one and the same");
        doc.each("no such trip", -1, trip -> x.late(trip, 0, 2, 100), NO_TRIP);
        doc.each("no such s", -1, s -> x.late(0, s, 2, 100), NO_STOP);
        doc.each("no such t", -1, t -> x.late(0, 0, t, 100), NO_STOP);
        doc.each("the same", -1, s -> x.late(0, s, s, 100), STOPS);
        doc.each("no such m", -1, m -> x.late(0, 0, 2, m), NO_MINUTE);
    }

    private void missed() {
        DayProfiles x = doc.read(SMALL);
        doc.in("Terms 3");
        doc.says("MISSED: the TRIP (not all of its RIDES CANCELLED) without which EARLIEST is latest, the first of several (no way at all is latest)");
        doc.due("without 0: 160, without 1: 150", x.missed(0, 2, 100, 0), 0);
        doc.due("no way without 2", x.missed(0, 2, 110, 0), 2);
        doc.due("none matters: the first", x.missed(1, 2, 200, 0), 0);
        x.cancel(0, 0, 1, true);
        doc.due("one of its rides goes", x.missed(1, 2, 200, 0), 0);
        x.cancel(0, 1, 1, true);
        doc.due("none of its rides goes", x.missed(1, 2, 200, 0), 1);
        DayProfiles two = doc.read(AB + "trip a 5 6 c;trip a 10 20 c;trip c 30 40 b;trip a 10 99 b;");
        doc.due("without 2: 99; the others: 40", two.missed(0, 1, 10, 0), 1);
        doc.due("without 1: 99", two.missed(0, 1, 10, 1), 99);
        two.cancel(3, 0, 1, true);
        doc.due("no way without 1, 2", two.missed(0, 1, 10, 0), 1);
        doc.due("no way without 2 alone", two.missed(0, 1, 5, 0), 2);
        DayProfiles only = doc.read(AB + "trip a 10 20 b;trip b 30 40 c;");
        doc.due("no way without the first", only.missed(0, 1, 10, 0), 0);
        doc.due("no way without the first", only.missed(0, 1, 10, 1), -3);
        doc.due("no way without 0, 1", only.missed(0, 2, 10, 0), 0);
        doc.in("Promise 20");
        doc.says("MISSED for s at minute m to t, what 0 the TRIP, 1 EARLIEST without it (-3: no way)");
        doc.due("none matters: as it is", x.missed(1, 2, 200, 1), 230);
        doc.due("no way", two.missed(0, 1, 10, 1), -3);
        doc.says("-2: there is no way, no such TRIP");
        doc.due("no way", x.missed(0, 2, 111, 0), -2);
        doc.due("no way", x.missed(0, 2, 111, 1), -2);
        DayProfiles none = doc.read(AB + "walk a b 5;");
        doc.due("no trip", none.missed(0, 1, 0, 0), -2);
        doc.due("no trip", none.missed(0, 1, 0, 1), -2);
        DayProfiles all = doc.read(AB + "walk a b 5;trip a 10 12 b 20 30 c;");
        all.cancel(0, 0, 2, true);
        doc.due("all are cancelled", all.missed(0, 1, 0, 0), -2);
        doc.due("all are cancelled", all.missed(0, 1, 0, 1), -2);
        doc.says("NONE: no such ones, one and the same");
        doc.each("no such s", -1, s -> x.missed(s, 2, 100, 0), NO_STOP);
        doc.each("no such t", -1, t -> x.missed(0, t, 100, 0), NO_STOP);
        doc.each("the same", -1, s -> x.missed(s, s, 100, 0), STOPS);
        doc.each("no such m", -1, m -> x.missed(0, 2, m, 0), NO_MINUTE);
        doc.each("no such what", -1, what -> x.missed(0, 2, 100, what), NO_WHAT);
        doc.each("no such what, ahead of -2", -1, what -> none.missed(0, 1, 0, what), NO_WHAT);
    }

    private void ifLate() {
        DayProfiles x = doc.read(SMALL);
        doc.in("Promise 21");
        doc.says("EARLIEST (4 CHANGES) from s at minute m to t, were a TRIP d (-60 .. 240) minutes later than NOW, all of its RIDES");
        doc.due("0", x.ifLate(0, 0, 0, 2, 100), 140);
        doc.due("the change goes", x.ifLate(0, 5, 0, 2, 100), 140);
        doc.due("the change is missed, on to the next ride", x.ifLate(0, 6, 0, 2, 100), 156);
        doc.due("-60", x.ifLate(2, -60, 0, 2, 50), 100);
        doc.due("240", x.ifLate(2, 240, 0, 2, 111), 400);
        x.delay(2, 0, 240);
        doc.due("240 later than NOW", x.ifLate(2, 240, 0, 2, 101), 640);
        doc.due("ahead of m", x.ifLate(0, -1, 0, 2, 100), 400);
        doc.due("four changes", doc.read(ROW).ifLate(4, 3, 0, 5, 10), 22);
        DayProfiles early = doc.read(AB + "trip a 20 60 b;trip b 70 80 c;");
        doc.due("at 0", early.ifLate(0, -20, 0, 1, 0), 40);
        doc.due("below 0 one can't be on", early.ifLate(0, -21, 0, 1, 0), -2);
        early.cancel(0, 0, 1, true);
        doc.due("cancelled still", early.ifLate(0, 0, 0, 1, 0), -2);
        DayProfiles change = doc.read(AB + "trip a 10 20 b;trip b 18 30 c 40 50 a;trip c 51 60 b;");
        doc.due("no change", change.ifLate(1, 1, 0, 2, 10), -2);
        doc.due("a change is won", change.ifLate(1, 2, 0, 2, 10), 32);
        doc.due("a change is won", change.ifLate(0, -2, 0, 2, 8), 30);
        change.delay(1, 0, 2);
        doc.due("a change is lost", change.ifLate(1, -1, 0, 2, 10), -2);
        doc.due("a change is lost", change.ifLate(0, 1, 0, 2, 10), -2);
        doc.due("both", change.ifLate(0, 0, 0, 2, 10), 32);
        doc.due("one and the same", x.ifLate(0, 9, 1, 1, 7), 7);
        doc.due("walking", x.ifLate(0, 9, 1, 2, 1439), 1469);
        doc.says("-2: there is no way");
        doc.due("too early then", x.ifLate(2, -60, 0, 2, 300), -2);
        doc.due("never", x.ifLate(2, 240, 2, 0, 127), -2);
        doc.says("NONE: no such ones");
        doc.each("no such trip", -1, trip -> x.ifLate(trip, 0, 0, 2, 100), NO_TRIP);
        doc.each("no such d", -1, d -> x.ifLate(0, d, 0, 2, 100), -61, 241, LEAST, MOST);
        doc.each("no such d, the same", -1, d -> x.ifLate(0, d, 1, 1, 100), -61, 241, LEAST, MOST);
        doc.each("no such s", -1, s -> x.ifLate(0, 0, s, 2, 100), NO_STOP);
        doc.each("no such t", -1, t -> x.ifLate(0, 0, 0, t, 100), NO_STOP);
        doc.each("no such m", -1, m -> x.ifLate(0, 0, 0, 2, m), NO_MINUTE);
    }

    private void meet() {
        DayProfiles x = doc.read(SMALL);
        doc.in("Terms 3");
        doc.says("MEET of a, b from minute m: the STOP t for which the later one of EARLIEST (4 CHANGES) from a and from b is least, the first of several");
        doc.due("at b", x.meet(0, 1, 100, 0), 1);
        doc.due("at b", x.meet(1, 0, 100, 0), 1);
        doc.due("at b at 120", x.meet(0, 1, 100, 1), 120);
        doc.due("half way", doc.read(AB + "walk a b 10;walk b c 12;").meet(0, 2, 0, 0), 1);
        doc.due("half way", doc.read(AB + "walk a b 10;walk b c 12;").meet(0, 2, 0, 1), 12);
        doc.due("the first", doc.read(AB + "walk b c 10;").meet(2, 1, 0, 0), 1);
        doc.due("the first of all", doc.read(AB + "walk a c 10;").meet(2, 0, 0, 0), 0);
        doc.due("the first of all", doc.read(AB + "walk a c 10;").meet(2, 0, 0, 1), 10);
        DayProfiles row = doc.read(ROW);
        doc.due("at f, by four changes", row.meet(0, 5, 10, 0), 5);
        doc.due("five are too many", row.meet(0, 6, 10, 0), -2);
        doc.in("Promise 28");
        doc.says("MEET, what 0 the STOP, 1 the minute");
        doc.due("where both are", x.meet(2, 2, 1439, 0), 2);
        doc.due("at once", x.meet(2, 2, 1439, 1), 1439);
        doc.says("-2: there is none");
        doc.due("none", x.meet(0, 1, 127, 0), -2);
        doc.due("none", x.meet(0, 1, 127, 1), -2);
        doc.says("NONE: no such ones");
        doc.each("no such a", -1, a -> x.meet(a, 2, 100, 0), NO_STOP);
        doc.each("no such b", -1, b -> x.meet(0, b, 100, 0), NO_STOP);
        doc.each("no such m", -1, m -> x.meet(0, 2, m, 0), NO_MINUTE);
        doc.each("no such what", -1, what -> x.meet(0, 2, 100, what), NO_WHAT);
        doc.each("no such what, ahead of -2", -1, what -> x.meet(0, 1, 1439, what), NO_WHAT);
    }

    private void via() {
        DayProfiles x = doc.read(SMALL);
        DayProfiles row = doc.read(ROW + "stop h 1;trip g 22 23 h;");
        doc.in("Terms 3");
        doc.says("VIA: EARLIEST from s at m to v, then from v at that minute to t (4 CHANGES each; v may be s or t)");
        doc.due("on at once, no change is needed", doc.read("stop a 0;stop b 60;stop c 0;trip a 1 2 b;trip b 2 3 c;").via(0, 1, 2, 1), 3);
        doc.due("a minute too late", doc.read(AB + "trip a 1 2 b;trip b 1 3 c;").via(0, 1, 2, 1), -2);
        doc.due("v is s", x.via(0, 0, 2, 100), 140);
        doc.due("v is t", x.via(0, 2, 2, 100), 140);
        doc.due("all are one", x.via(2, 2, 2, 1439), 1439);
        doc.due("there and back", x.via(1, 2, 1, 1439), 1499);
        doc.due("four and one", row.via(0, 5, 7, 10), 23);
        doc.due("one and four", row.via(0, 2, 7, 10), 23);
        doc.due("five at once", row.via(0, 0, 7, 10), -2);
        doc.due("behind the day", behindTheDay().via(0, 1, 2, 1400), 1540);
        doc.in("Promise 29");
        doc.says("VIA; -2: there is no way");
        doc.due("none there", x.via(0, 1, 2, 111), -2);
        doc.due("none on", x.via(0, 2, 0, 100), -2);
        doc.says("NONE: no such ones");
        doc.each("no such s", -1, s -> x.via(s, 1, 2, 100), NO_STOP);
        doc.each("no such v", -1, v -> x.via(0, v, 2, 100), NO_STOP);
        doc.each("no such t", -1, t -> x.via(0, 1, t, 100), NO_STOP);
        doc.each("no such t, ahead of -2", -1, t -> x.via(0, 1, t, 1439), NO_STOP);
        doc.each("no such m", -1, m -> x.via(0, 1, 2, m), NO_MINUTE);
    }

    /** One is at b at 1520, where a ride leaves just then. */
    private DayProfiles behindTheDay() {
        DayProfiles x = doc.read(AB + "trip a 1400 1420 b;trip b 1400 1420 c;");
        x.delay(0, 0, 100);
        x.delay(1, 0, 120);
        return x;
    }

    private void stay() {
        DayProfiles x = doc.read(SMALL);
        doc.in("Terms 3");
        doc.says("STAY: there and back: EARLIEST from s at m to t is minute e; the LATEST from t to s till minute z is l: l less e");
        doc.due("there at 120, back at 126", x.stay(0, 1, 100, 135), 6);
        doc.due("walking", x.stay(1, 2, 1000, 1070), 10);
        doc.due("walking back only", x.stay(1, 2, 130, 200), 30);
        DayProfiles row = doc.read(ROW + "stop h 1;walk a f 239;");
        doc.due("four changes there", row.stay(0, 5, 10, 300), 61 - 19);
        doc.in("Promise 30");
        doc.says("STAY, z 0 .. 2000");
        doc.due("2000", x.stay(1, 2, 0, 2000), 1940);
        doc.due("0", x.stay(1, 2, 0, 0), -2);
        doc.due("1439", x.stay(1, 2, 1439, 2000), 2000 - 30 - 1469);
        doc.says("-2: there is no way there, none back in time");
        doc.due("none there", x.stay(0, 1, 127, 2000), -2);
        doc.due("none back", x.stay(0, 1, 100, 134), -2);
        doc.says("NONE: no such ones, one and the same");
        doc.each("no such s", -1, s -> x.stay(s, 1, 100, 135), NO_STOP);
        doc.each("no such t", -1, t -> x.stay(0, t, 100, 135), NO_STOP);
        doc.each("the same", -1, s -> x.stay(s, s, 100, 135), STOPS);
        doc.each("no such m", -1, m -> x.stay(0, 1, m, 135), NO_MINUTE);
        doc.each("no such z", -1, z -> x.stay(0, 1, 100, z), NO_LIMIT);
        doc.each("no such z, ahead of -2", -1, z -> x.stay(0, 1, 1439, z), NO_LIMIT);
        doc.says("(Below 0: -3.)");
        doc.due("0", x.stay(1, 2, 1000, 1060), 0);
        doc.due("below 0", x.stay(1, 2, 1000, 1059), -3);
        doc.due("far below 0", x.stay(1, 2, 1000, 30), -3);
        doc.due("back at 126, there at 160", x.stay(0, 2, 101, 166), -3);
    }

    private void board() {
        DayProfiles x = doc.read(SMALL);
        doc.in("Terms 3");
        doc.says("BOARD of a STOP from minute m: RIDES that aren't CANCELLED and leave it (or come to it) at m or later, by that minute, of like ones by numbers");
        int[] leaving = {1, 4, 2, -2};
        for (int i = 0; i < leaving.length; i++) {
            doc.due("leaving b", x.board(1, 125, false, i), leaving[i]);
        }
        doc.due("a minute later", x.board(1, 126, false, 0), 4);
        doc.due("coming to c", x.board(2, 140, true, 0), 2);
        doc.due("coming to c", x.board(2, 141, true, 0), 1);
        doc.due("coming to c", x.board(2, 141, true, 1), 3);
        x.delay(1, 0, -4);
        doc.due("like ones, NOW", x.board(1, 126, false, 0), 2);
        doc.due("like ones, NOW", x.board(1, 126, false, 1), 4);
        doc.due("like ones, NOW", x.board(1, 126, false, 2), -2);
        x.delay(3, 0, -1);
        doc.due("like ones, NOW", x.board(1, 100, false, 0), 1);
        doc.due("like ones, NOW", x.board(1, 100, false, 1), 4);
        doc.due("like ones, NOW", x.board(1, 100, false, 2), 2);
        x.cancel(3, 0, 1, true);
        doc.due("cancelled", x.board(1, 100, false, 1), 2);
        doc.due("cancelled", x.board(0, 0, true, 0), -2);
        doc.in("Promise 31");
        doc.says("The i-th on the BOARD of a STOP from minute m (0 .. 1439), leaving or coming: its RIDE");
        doc.due("0", x.board(0, 0, false, 0), 0);
        doc.due("0, the second", x.board(0, 0, false, 1), 3);
        DayProfiles y = behindTheDay();
        doc.due("1439, leaving behind it", y.board(0, 1439, false, 0), 0);
        doc.due("1439, coming behind it", y.board(2, 1439, true, 0), 1);
        doc.says("-2: there are not so many");
        doc.each("board", -2, i -> x.board(0, 0, false, i), 2, 3, 60, MOST);
        doc.each("board", -2, i -> x.board(2, 0, false, i), 0, 1, MOST);
        doc.due("later than all", x.board(1, 1439, false, 0), -2);
        DayProfiles full = doc.read(AB + "trip a 1 2 b 9 10 a 10 11 b;".repeat(20));
        doc.due("of sixty rides", full.board(0, 0, false, 19), 57);
        doc.due("of sixty rides", full.board(0, 0, false, 20), 2);
        doc.due("of sixty rides", full.board(0, 0, false, 39), 59);
        doc.due("of sixty rides", full.board(0, 0, false, 40), -2);
        doc.says("NONE: no such ones");
        doc.each("no such stop", -1, stop -> x.board(stop, 0, false, 0), NO_STOP);
        doc.each("no such stop", -1, stop -> x.board(stop, 0, true, 0), NO_STOP);
        doc.each("no such m", -1, m -> x.board(0, m, false, 0), NO_MINUTE);
        doc.each("no such m, ahead of -2", -1, m -> x.board(0, m, true, 99), NO_MINUTE);
    }

    private void slack() {
        DayProfiles x = doc.read(SMALL);
        doc.in("Promise 32");
        doc.says("By how many minutes a RIDE leaves later than one who gets off another one can be ON it (below 0: too late)");
        doc.due("by a change", x.slack(0, 2), 5);
        doc.due("of one trip, by a change", x.slack(0, 1), 0);
        doc.due("too late", x.slack(1, 4), 126 - 150 - 30);
        doc.due("too late by a minute", doc.read(AB + "trip a 1 3 b;trip b 2 4 c;").slack(0, 1), -1);
        DayProfiles walk = doc.read("stop a 60;stop b 60;stop c 60;stop d 60;walk b c 10;trip a 1 5 b;trip c 15 20 d;trip b 65 70 a;");
        doc.due("a walk, no change", walk.slack(0, 1), 0);
        doc.due("a change, no walk", walk.slack(0, 2), 0);
        x.delay(0, 0, 6);
        doc.due("NOW", x.slack(0, 2), -1);
        DayProfiles far = doc.read("stop a 0;stop b 0;walk a b 240;trip a 0 1439 b;");
        far.delay(0, 0, 240);
        doc.due("one ride, far below -1000", far.slack(0, 0), -1679);
        doc.says("-1000: no such RIDES, one is CANCELLED, no WALK");
        doc.each("no such off", -1000, off -> x.slack(off, 2), -1, 5, 60, LEAST, MOST);
        doc.each("no such on", -1000, on -> x.slack(0, on), -1, 5, 60, LEAST, MOST);
        doc.each("no such ones", -1000, ride -> x.slack(ride, ride), -1, 5, 60, LEAST, MOST);
        doc.due("no walk", x.slack(1, 0), -1000);
        x.cancel(0, 0, 1, true);
        doc.due("off is cancelled", x.slack(0, 2), -1000);
        doc.due("off is not", x.slack(1, 2), 130 - 156 - 30);
        x.cancel(1, 0, 1, true);
        doc.due("on is cancelled", x.slack(1, 2), -1000);
    }

    private void fewest() {
        DayProfiles x = doc.read(SMALL);
        DayProfiles row = doc.read(ROW);
        doc.in("Promise 33");
        doc.says("The fewest CHANGES of a JOURNEY from s with DEP m (0 .. 1439) or more to t with ARR z (0 .. 2000) or less (WALKING: 0)");
        doc.due("none", x.fewest(0, 2, 100, 150), 0);
        doc.due("one", x.fewest(0, 2, 100, 149), 1);
        doc.due("one, just so", x.fewest(0, 2, 100, 140), 1);
        doc.due("0, 2000", x.fewest(0, 2, 0, 2000), 0);
        doc.due("four", row.fewest(0, 5, 10, 19), 4);
        doc.due("walking", x.fewest(2, 1, 100, 130), 0);
        doc.due("walking, 1439", x.fewest(2, 1, 1439, 1469), 0);
        doc.due("z is 0", x.fewest(2, 1, 0, 0), -2);
        doc.due("a ride at 0", doc.read(AB + "trip a 0 1 b;").fewest(0, 1, 0, 1), 0);
        doc.says("-2: there is none");
        doc.due("not so soon", x.fewest(0, 2, 100, 139), -2);
        doc.due("not so late", x.fewest(0, 2, 111, 2000), -2);
        doc.due("not by walking", x.fewest(2, 1, 100, 129), -2);
        doc.due("not by five", row.fewest(0, 6, 10, 2000), -2);
        doc.says("NONE: no such ones, one and the same");
        doc.each("no such s", -1, s -> x.fewest(s, 2, 100, 150), NO_STOP);
        doc.each("no such t", -1, t -> x.fewest(0, t, 100, 150), NO_STOP);
        doc.each("the same", -1, s -> x.fewest(s, s, 100, 150), STOPS);
        doc.each("no such m", -1, m -> x.fewest(0, 2, m, 150), NO_MINUTE);
        doc.each("no such z", -1, z -> x.fewest(0, 2, 100, z), NO_LIMIT);
    }

    private void next() {
        DayProfiles x = doc.read(SMALL);
        doc.in("Terms 3");
        doc.says("NEXT of s at m to t: EARLIEST (4 CHANGES) by JOURNEYS alone with a DEP later than the greatest DEP of those that come at EARLIEST");
        doc.due("the next leaves at 110", x.next(0, 2, 100), 160);
        DayProfiles tie = doc.read(AB + "trip a 10 60 b;trip a 20 60 b;trip a 20 70 b;trip a 21 99 b;trip a 22 98 b;");
        doc.due("the greatest DEP of like ones", tie.next(0, 1, 10), 98);
        DayProfiles walk = doc.read(AB + "walk a b 50;trip a 10 60 b;trip a 20 61 b;trip a 30 100 b;");
        doc.due("a journey comes as walking does", walk.next(0, 1, 10), 61);
        doc.due("a journey alone, walking would be first", walk.next(0, 1, 10), 61);
        doc.due("five changes are no journey", doc.read(ROW + "trip a 9 12 g;").next(0, 6, 9), -2);
        doc.due("four are one", doc.read(ROW + "trip a 9 12 f;").next(0, 5, 9), 19);
        doc.says("by WALKING alone nothing is next");
        doc.due("walking comes first", walk.next(0, 1, 9), -2);
        doc.due("no journey is left", walk.next(0, 1, 31), -2);
        doc.due("one that left ahead is none of them", walk.next(0, 1, 11), 100);
        DayProfiles left = doc.read(AB + "walk a b 50;trip a 10 60 b;trip a 30 100 b;");
        doc.due("walking is first at 9", left.next(0, 1, 9), -2);
        doc.due("walking is first at 11, the ride at 10 has left", left.next(0, 1, 11), -2);
        doc.in("Promise 35");
        doc.says("NEXT; -2: there is none (no JOURNEY comes at EARLIEST, too)");
        doc.due("none is next", x.next(0, 2, 101), -2);
        doc.due("no way", x.next(0, 2, 111), -2);
        doc.due("walking", x.next(2, 1, 100), -2);
        doc.says("NONE: no such ones, one and the same");
        doc.each("no such s", -1, s -> x.next(s, 2, 100), NO_STOP);
        doc.each("no such t", -1, t -> x.next(0, t, 100), NO_STOP);
        doc.each("the same", -1, s -> x.next(s, s, 100), STOPS);
        doc.each("no such m", -1, m -> x.next(0, 2, m), NO_MINUTE);
    }
}
