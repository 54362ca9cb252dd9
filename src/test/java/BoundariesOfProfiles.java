/** Terms 2 (journeys), and the promises of profiles: 11 to 13, 22 to 27, 34, 36, 37. */
final class BoundariesOfProfiles {
    private static final int LEAST = Integer.MIN_VALUE;
    private static final int MOST = Integer.MAX_VALUE;
    private static final int[] NO_STOP = {-1, 3, 10, LEAST, MOST};
    /** STOPS a 0, b 1, c 2; RIDES 0, 1 of TRIP 0; 2 of TRIP 1; 3 of TRIP 2; 4 of TRIP 3. */
    static final String SMALL = "stop a 5;stop b 5;stop c 7;walk b c 30;"
        + "trip a 100 120 b 125 150 c;trip b 130 140 c;trip a 110 160 c;trip b 126 135 a;";
    /** Six RIDES in a row: a to f is four CHANGES, a to g would be five. */
    static final String ROW = "stop a 1;stop b 1;stop c 1;stop d 1;stop e 1;stop f 1;stop g 1;"
        + "trip a 10 11 b;trip b 12 13 c;trip c 14 15 d;trip d 16 17 e;trip e 18 19 f;trip f 20 21 g;";

    private final Sentences doc;

    BoundariesOfProfiles(Sentences doc) {
        this.doc = doc;
    }

    void run() {
        walks();
        stayingOn();
        changing();
        leaving();
        fourChanges();
        beaten();
        beatenByWalking();
        order();
        unfolded();
        profileAndAt();
        leg();
        uses();
        byChanges();
        waits();
        travels();
        hub();
        gap();
        quickest();
        breaks();
    }

    private void rows(DayProfiles x, int s, int t, int[]... due) {
        doc.due("profile " + s + " " + t, x.profile(s, t), due.length);
        for (int i = 0; i < due.length; i++) {
            for (int what = 0; what < 3; what++) {
                doc.due("at " + s + " " + t + " " + i + " " + what, x.at(s, t, i, what), due[i][what]);
            }
        }
        doc.due("not so many", x.at(s, t, due.length, 0), -2);
    }

    private static int[] row(int dep, int arr, int changes) {
        return new int[] {dep, arr, changes};
    }

    private void legs(DayProfiles x, int s, int t, int i, int... due) {
        for (int l = 0; l < due.length / 2; l++) {
            doc.due("leg " + l + " on", x.leg(s, t, i, l, 0), due[2 * l]);
            doc.due("leg " + l + " off", x.leg(s, t, i, l, 1), due[2 * l + 1]);
        }
        doc.due("no more legs", x.leg(s, t, i, due.length / 2, 0), -2);
    }

    // ---- Terms 2 ----

    private void walks() {
        doc.in("Terms 2");
        doc.says("WALK between two STOPS: the fewest minutes by walks, one behind another");
        StringBuilder text = new StringBuilder();
        for (char name = 'a'; name <= 'j'; name++) {
            text.append("stop ").append(name).append(" 0;");
        }
        for (char name = 'j'; name > 'a'; name--) {
            text.append("walk ").append(name).append(' ').append((char) (name - 1)).append(" 240;");
        }
        DayProfiles x = doc.read(text.toString());
        doc.due("all nine of them", x.walk(0, 9), 2160);
        doc.due("back", x.walk(9, 0), 2160);
        DayProfiles y = doc.read("stop a 0;stop b 0;stop c 0;walk a c 21;walk a b 10;walk c b 10;");
        doc.due("two are shorter", y.walk(0, 2), 20);
        DayProfiles z = doc.read("stop a 0;stop b 0;stop c 0;walk a c 19;walk a b 10;walk c b 10;walk c a 99;");
        doc.due("one is shorter", z.walk(0, 2), 19);
        doc.due("by the first stop", doc.read("stop a 0;stop b 0;stop c 0;walk a b 3;walk c a 4;").walk(1, 2), 7);
        doc.says("(0 of a STOP to itself; none, if there is no way)");
        DayProfiles w = doc.read("stop a 9;stop b 0;stop c 0;walk a b 1;");
        doc.due("itself", w.walk(0, 0), 0);
        doc.due("itself, without walks", w.walk(2, 2), 0);
        doc.due("none", w.walk(0, 2), -2);
        doc.due("none", w.walk(2, 1), -2);
    }

    private void stayingOn() {
        doc.says("ON: to be on a RIDE. One who is on a RIDE stays on for the next RIDE of its TRIP (if that isn't CANCELLED), or gets off where it comes");
        DayProfiles x = doc.read("stop a 9;stop b 9;stop c 9;stop d 9;trip a 1 2 b 2 3 c 3 4 d;trip d 5 6 a;");
        rows(x, 0, 3, row(1, 4, 0));
        rows(x, 0, 1, row(1, 2, 0));
        doc.each("earliest", 4, k -> x.earliest(0, 3, 1, k), 0, 4);
        doc.due("no staying on for another trip", x.profile(2, 0), 0);
        doc.due("no staying on for another trip", x.earliest(2, 0, 1, 4), -2);
        x.cancel(0, 1, 1, true);
        rows(x, 0, 3);
        doc.each("earliest", -2, k -> x.earliest(0, 3, 1, k), 0, 4);
        rows(x, 0, 1, row(1, 2, 0));
        rows(x, 2, 3, row(3, 4, 0));
        x.cancel(0, 1, 1, false);
        x.cancel(0, 2, 1, true);
        rows(x, 0, 2, row(1, 3, 0));
        rows(x, 0, 3);
        doc.due("earliest", x.earliest(0, 2, 1, 0), 3);
        doc.due("earliest", x.earliest(0, 3, 1, 4), -2);
        doc.due("on to the last ride of all", doc.read("stop a 9;stop b 9;stop c 9;trip a 1 2 b 2 3 c;").earliest(0, 2, 1, 0), 3);
        DayProfiles then = doc.read("stop a 0;stop b 0;stop c 0;stop d 0;trip a 1 2 b;trip b 5 6 c 7 8 d;trip d 9 10 c;");
        rows(then, 0, 3, row(1, 8, 1));
        doc.due("on behind a change", then.earliest(0, 3, 1, 1), 8);
        then.cancel(1, 1, 1, true);
        doc.due("cancelled behind a change", then.earliest(0, 3, 1, 4), -2);
    }

    private void changing() {
        doc.says("Off at minute m at a STOP one can be ON a RIDE that isn't CANCELLED and leaves the STOP at m and CHANGE or later (one CHANGES)");
        DayProfiles x = doc.read("stop a 0;stop b 60;stop c 0;trip a 10 20 b;trip b 80 90 c;");
        rows(x, 0, 2, row(10, 90, 1));
        x.delay(1, 0, -1);
        rows(x, 0, 2);
        x.delay(0, 0, -1);
        rows(x, 0, 2, row(9, 89, 1));
        x.cancel(1, 0, 1, true);
        rows(x, 0, 2);
        DayProfiles at0 = doc.read("stop a 9;stop b 0;stop c 9;trip a 10 20 b;trip b 20 30 c;");
        rows(at0, 0, 2, row(10, 30, 1));
        doc.says("or one that leaves another STOP to which there is a WALK, at m and the WALK or later (one CHANGES, too)");
        DayProfiles y = doc.read("stop a 60;stop b 60;stop c 60;stop d 60;walk b c 15;trip a 10 20 b;trip c 35 40 d;");
        rows(y, 0, 3, row(10, 40, 1));
        y.delay(1, 0, -1);
        rows(y, 0, 3);
        y.delay(1, 0, 0);
        y.cancel(1, 0, 1, true);
        rows(y, 0, 3);
        DayProfiles far = doc.read("stop a 0;stop b 0;stop c 0;stop d 0;stop e 0;walk b c 9;walk c e 9;trip a 10 20 b;trip e 38 40 d;");
        rows(far, 0, 3, row(10, 40, 1));
        far.delay(1, 0, -1);
        rows(far, 0, 3);
        doc.says("In the end one WALKS (or is there)");
        rows(y, 0, 2, row(10, 35, 0));
        rows(y, 0, 1, row(10, 20, 0));
    }

    private void leaving() {
        doc.says("A JOURNEY from STOP s to STOP t, s not t: one leaves s at a minute (0 or more)");
        DayProfiles x = doc.read("stop a 0;stop b 9;stop c 0;walk a b 20;trip b 20 30 c;trip b 19 25 c;");
        rows(x, 0, 2, row(0, 30, 0));
        rows(x, 1, 2, row(19, 25, 0), row(20, 30, 0));
        doc.due("s is t", x.profile(2, 2), -1);
        doc.says("WALKS to a STOP (or is there; no CHANGE is needed), is ON a RIDE just as it leaves there");
        DayProfiles y = doc.read("stop a 60;stop b 60;stop c 60;walk a b 7;trip a 0 9 c;trip b 50 51 c;");
        rows(y, 0, 2, row(0, 9, 0), row(43, 51, 0));
        doc.due("just in time", y.earliest(0, 2, 0, 4), 9);
        doc.due("just in time", y.earliest(0, 2, 43, 4), 51);
        doc.due("too late", y.earliest(0, 2, 44, 4), -2);
        doc.says("It leaves so late as can be: DEP is when the first RIDE leaves less the WALK to it. ARR is when the last RIDE comes and the WALK to t");
        DayProfiles z = doc.read("stop a 9;stop b 9;stop c 9;stop d 9;stop e 9;walk a b 5;walk d e 6;trip b 10 20 c;trip c 30 40 d;");
        rows(z, 0, 4, row(5, 46, 1));
        rows(z, 1, 4, row(10, 46, 1));
        rows(z, 1, 3, row(10, 40, 1));
    }

    private void fourChanges() {
        doc.says("stays on, gets off, CHANGES, and so on, 4 CHANGES at most; is at t at a minute: its DEP, ARR, CHANGES");
        DayProfiles x = doc.read(ROW);
        rows(x, 0, 5, row(10, 19, 4));
        legs(x, 0, 5, 0, 0, 0, 1, 1, 2, 2, 3, 3, 4, 4);
        rows(x, 0, 6);
        rows(x, 1, 6, row(12, 21, 4));
        DayProfiles on = doc.read("stop a 9;stop b 9;stop c 1;stop d 9;stop e 9;stop f 9;stop g 9;stop h 9;walk e f 8;"
            + "trip a 1 2 b 2 3 c;trip c 4 5 d 6 7 e;trip f 15 16 g 17 18 h;");
        rows(on, 0, 7, row(1, 18, 2));
        legs(on, 0, 7, 0, 0, 1, 2, 3, 4, 5);
        rows(on, 0, 6, row(1, 16, 2));
        legs(on, 0, 6, 0, 0, 1, 2, 3, 4, 4);
    }

    private void beaten() {
        doc.says("A JOURNEY is BEATEN by another one that has DEP no less, ARR no more, CHANGES no more, and not all three alike");
        String ab = "stop a 0;stop b 0;stop c 0;";
        rows(doc.read(ab + "trip a 10 20 b;trip a 10 21 b;"), 0, 1, row(10, 20, 0));
        rows(doc.read(ab + "trip a 10 20 b;trip a 11 20 b;"), 0, 1, row(11, 20, 0));
        rows(doc.read(ab + "trip a 10 21 b;trip a 11 20 b;"), 0, 1, row(11, 20, 0));
        rows(doc.read(ab + "trip a 10 20 b;trip a 11 21 b;"), 0, 1, row(10, 20, 0), row(11, 21, 0));
        String twoTrips = ab + "trip a 10 20 c;trip c 20 30 b;";
        rows(doc.read(twoTrips + "trip a 10 30 b;"), 0, 1, row(10, 30, 0));
        rows(doc.read(twoTrips + "trip a 11 30 b;"), 0, 1, row(11, 30, 0));
        rows(doc.read(twoTrips + "trip a 10 31 b;"), 0, 1, row(10, 30, 1), row(10, 31, 0));
        rows(doc.read(twoTrips + "trip a 9 30 b;"), 0, 1, row(9, 30, 0), row(10, 30, 1));
        rows(doc.read(twoTrips + "trip a 9 29 b;"), 0, 1, row(9, 29, 0), row(10, 30, 1));
        rows(doc.read(twoTrips + "trip a 11 31 b;"), 0, 1, row(10, 30, 1), row(11, 31, 0));
        doc.says("PROFILE of s, t: all unlike (DEP, ARR, CHANGES) of JOURNEYS that are not BEATEN");
        rows(doc.read(ab + "trip a 10 20 b;trip a 10 20 b;trip a 10 20 b;"), 0, 1, row(10, 20, 0));
        rows(doc.read(ab), 0, 1);
        rows(doc.read(ab + "trip b 10 20 a;"), 0, 1);
    }

    private void beatenByWalking() {
        doc.says("by WALKING, if there is a WALK from s to t of ARR less DEP minutes or fewer");
        DayProfiles x = doc.read("stop a 0;stop b 0;walk a b 10;trip a 10 20 b;trip a 30 39 b;trip a 50 61 b;");
        rows(x, 0, 1, row(30, 39, 0));
        DayProfiles y = doc.read("stop a 0;stop b 0;stop c 0;walk a c 4;walk c b 6;trip a 10 20 b;trip a 30 39 b;trip c 50 55 b;");
        rows(y, 0, 1, row(30, 39, 0), row(46, 55, 0));
        y.cancel(1, 0, 1, true);
        rows(y, 0, 1, row(46, 55, 0));
    }

    private void order() {
        doc.says("by DEP, the least first, of like ones by ARR, the least first, then by CHANGES, the least first");
        DayProfiles x = doc.read("stop a 0;stop b 0;stop c 0;stop d 0;trip a 30 90 b;trip a 10 80 b;trip a 30 35 c;"
            + "trip c 40 70 b;trip c 40 45 d;trip d 50 60 b;trip a 20 85 b;");
        rows(x, 0, 1, row(10, 80, 0), row(20, 85, 0), row(30, 60, 2), row(30, 70, 1), row(30, 90, 0));
        DayProfiles tie = doc.read("stop a 0;stop b 0;stop c 0;trip a 30 35 c;trip c 40 70 b;trip a 30 70 b;");
        rows(tie, 0, 1, row(30, 70, 0));
    }

    private void unfolded() {
        doc.says("of all JOURNEYS with its DEP, ARR, CHANGES that of the least row: the first LEG's RIDE on,"
            + " its RIDE off, the second LEG's on, and so on, by numbers");
        DayProfiles on = doc.read("stop a 0;stop b 0;trip a 10 20 b;trip a 10 20 b;trip a 9 20 b;");
        legs(on, 0, 1, 0, 0, 0);
        on.cancel(0, 0, 1, true);
        legs(on, 0, 1, 0, 1, 1);
        DayProfiles off = doc.read("stop a 0;stop b 0;stop c 0;stop d 0;walk b d 10;trip a 10 20 b 22 24 c 26 30 d;trip a 10 30 d;");
        legs(off, 0, 3, 0, 0, 0);
        off.delay(0, 1, 1);
        legs(off, 0, 3, 0, 0, 0);
        DayProfiles through = doc.read("stop a 0;stop b 0;stop c 0;stop d 0;walk b d 11;trip a 10 20 b 22 24 c 26 30 d;trip a 10 30 d;");
        legs(through, 0, 3, 0, 0, 2);
        DayProfiles second = doc.read("stop a 0;stop b 0;stop c 0;stop d 0;"
            + "trip c 40 50 d;trip b 35 50 d;trip c 36 50 d;trip a 10 20 b 25 30 c;");
        legs(second, 0, 3, 0, 3, 3, 1, 1);
        second.cancel(1, 0, 1, true);
        legs(second, 0, 3, 0, 3, 4, 0, 0);
        second.cancel(0, 0, 1, true);
        legs(second, 0, 3, 0, 3, 4, 2, 2);
        doc.says("UNFOLDED one of these: its LEGS, each from a RIDE one gets ON to one of the same TRIP at whose end one gets off");
        DayProfiles twice = doc.read("stop a 0;stop b 0;stop c 0;walk a b 1;trip c 1 2 a 3 4 b 5 6 c 7 8 b 9 10 a;");
        legs(twice, 2, 1, 0, 0, 0);
        twice.cancel(0, 1, 1, true);
        legs(twice, 0, 2, 0, 2, 2);
        DayProfiles rows = doc.read("stop a 0;stop b 0;stop c 0;stop d 0;trip a 1 2 b;trip b 3 4 c 5 6 d;trip a 7 8 b;trip b 9 10 d;trip a 11 12 d;");
        legs(rows, 0, 3, 0, 0, 0, 1, 2);
        legs(rows, 0, 3, 1, 3, 3, 4, 4);
        legs(rows, 0, 3, 2, 5, 5);
    }

    // ---- promises 11 to 13 ----

    private void profileAndAt() {
        DayProfiles x = doc.read(SMALL);
        doc.in("Promise 11");
        doc.says("How many are in the PROFILE of s, t");
        doc.due("three", x.profile(0, 2), 3);
        doc.due("none", x.profile(2, 1), 0);
        doc.says("NONE: no such ones, one and the same");
        doc.each("no such s", -1, s -> x.profile(s, 2), NO_STOP);
        doc.each("no such t", -1, t -> x.profile(0, t), NO_STOP);
        doc.each("the same", -1, s -> x.profile(s, s), 0, 1, 2, 3, -1);
        doc.in("Promise 12");
        doc.says("Of the i-th in the PROFILE, what 0 DEP, 1 ARR, 2 CHANGES");
        rows(x, 0, 2, row(100, 140, 1), row(100, 150, 0), row(110, 160, 0));
        doc.says("-2: there are not so many");
        doc.each("at", -2, i -> x.at(0, 2, i, 0), 3, 4, 300, MOST);
        doc.each("at", -2, i -> x.at(2, 1, i, 2), 0, 1, MOST);
        doc.says("NONE: no such ones, one and the same");
        doc.each("no such s", -1, s -> x.at(s, 2, 0, 0), NO_STOP);
        doc.each("no such t", -1, t -> x.at(0, t, 0, 0), NO_STOP);
        doc.each("the same", -1, s -> x.at(s, s, 0, 0), 0, 1, 2);
        doc.each("no such what", -1, what -> x.at(0, 2, 0, what), -1, 3, LEAST, MOST);
        doc.each("no such what, ahead of -2", -1, what -> x.at(0, 2, 3, what), -1, 3);
        doc.in("Terms 4");
        doc.says("The i-th: i from 0 on");
        doc.due("0", x.at(0, 2, 0, 1), 140);
        doc.each("at", -1, i -> x.at(0, 2, i, 0), -1, -2, LEAST);
        doc.each("atBy", -1, i -> x.atBy(0, 2, 4, i, 0), -1, -2, LEAST);
        doc.each("leg", -1, i -> x.leg(0, 2, i, 0, 0), -1, -2, LEAST);
        doc.each("leg", -1, l -> x.leg(0, 2, 0, l, 0), -1, -2, LEAST);
        doc.each("waits", -1, i -> x.waits(0, 2, i, 0), -1, -2, LEAST);
        doc.each("travels", -1, i -> x.travels(0, 2, i, 0), -1, -2, LEAST);
        doc.each("planAs", -1, i -> x.planAs(0, 2, i), -1, -2, LEAST);
        doc.each("board", -1, i -> x.board(0, 0, false, i), -1, -2, LEAST);
    }

    private void leg() {
        DayProfiles x = doc.read(SMALL);
        doc.in("Promise 13");
        doc.says("UNFOLDED the i-th in the PROFILE, LEG l (from 0 on), what 0 the RIDE on, 1 the RIDE off");
        legs(x, 0, 2, 0, 0, 0, 2, 2);
        legs(x, 0, 2, 1, 0, 0);
        legs(x, 0, 2, 2, 3, 3);
        doc.says("-2: there are not so many, it has not so many LEGS");
        doc.each("leg", -2, i -> x.leg(0, 2, i, 0, 0), 3, 4, MOST);
        doc.each("leg", -2, l -> x.leg(0, 2, 0, l, 1), 2, 5, 6, MOST);
        doc.each("leg", -2, l -> x.leg(0, 2, 1, l, 0), 1, 2, 5, 6, MOST);
        doc.due("an empty profile", x.leg(2, 1, 0, 0, 0), -2);
        doc.says("NONE: no such ones, one and the same");
        doc.each("no such s", -1, s -> x.leg(s, 2, 0, 0, 0), NO_STOP);
        doc.each("no such t", -1, t -> x.leg(0, t, 0, 0, 0), NO_STOP);
        doc.each("the same", -1, s -> x.leg(s, s, 0, 0, 0), 0, 1, 2);
        doc.each("no such what", -1, what -> x.leg(0, 2, 0, 0, what), -1, 2, LEAST, MOST);
        doc.each("no such what, ahead of -2", -1, what -> x.leg(0, 2, 3, 0, what), -1, 2);
        doc.each("no such what, ahead of -2", -1, what -> x.leg(0, 2, 0, 2, what), -1, 2);
    }

    // ---- promises 22 to 27 ----

    private void uses() {
        DayProfiles x = doc.read(SMALL);
        doc.in("Promise 22");
        doc.says("How many in PROFILES of all STOPS to t have a LEG on a TRIP, UNFOLDED");
        doc.each("to c", 2, trip -> x.uses(trip, 2), 0, 1);
        doc.due("to c", x.uses(2, 2), 1);
        doc.due("to c", x.uses(3, 2), 0);
        doc.due("to a: from b, from c by a walk", x.uses(3, 0), 2);
        x.cancel(0, 0, 2, true);
        doc.due("cancelled", x.uses(0, 2), 0);
        DayProfiles twice = doc.read("stop a 0;stop b 0;stop c 0;stop d 0;walk b c 1;trip a 1 2 b 3 4 d 5 6 c 7 8 d;");
        twice.cancel(0, 1, 2, true);
        doc.due("one leg on it each", twice.uses(0, 3), 3);
        doc.due("twice in one counts once", twice.leg(0, 3, 0, 1, 0), 3);
        doc.says("NONE: no such ones");
        doc.each("no such trip", -1, trip -> x.uses(trip, 2), -1, 4, 20, LEAST, MOST);
        doc.each("no such t", -1, t -> x.uses(0, t), NO_STOP);
    }

    private void byChanges() {
        DayProfiles x = doc.read(SMALL);
        doc.in("Terms 3");
        doc.says("BY k of s, t: what the PROFILE would be by JOURNEYS of k CHANGES at most (4: the PROFILE)");
        DayProfiles row = doc.read(ROW + "trip a 10 99 f;");
        for (int k = 0; k <= 4; k++) {
            doc.due("by " + k, row.profileBy(0, 5, k), k < 4 ? 1 : 2);
            doc.due("the first by " + k, row.atBy(0, 5, k, 0, 1), k < 4 ? 99 : 19);
            doc.due("to the fifth stop", row.profileBy(0, 4, k), k < 3 ? 0 : 1);
        }
        doc.due("4: the profile", row.profile(0, 5), 2);
        doc.in("Promise 23");
        doc.says("How many are BY k (0 .. 4)");
        doc.due("0", x.profileBy(0, 2, 0), 2);
        doc.each("1 to 4", 3, k -> x.profileBy(0, 2, k), 1, 2, 3, 4);
        doc.says("NONE: no such ones, one and the same");
        doc.each("no such k", -1, k -> x.profileBy(0, 2, k), -1, 5, LEAST, MOST);
        doc.each("no such s", -1, s -> x.profileBy(s, 2, 0), NO_STOP);
        doc.each("no such t", -1, t -> x.profileBy(0, t, 0), NO_STOP);
        doc.each("the same", -1, s -> x.profileBy(s, s, 0), 0, 1, 2);
        doc.in("Promise 24");
        doc.says("The i-th BY k, what 0 DEP, 1 ARR, 2 CHANGES");
        doc.due("dep", x.atBy(0, 2, 0, 1, 0), 110);
        doc.due("arr", x.atBy(0, 2, 0, 0, 1), 150);
        doc.due("arr by 1", x.atBy(0, 2, 1, 0, 1), 140);
        doc.due("changes", x.atBy(0, 2, 1, 0, 2), 1);
        doc.due("changes", x.atBy(0, 2, 0, 0, 2), 0);
        doc.says("-2: there are not so many");
        doc.each("by 0", -2, i -> x.atBy(0, 2, 0, i, 0), 2, 3, MOST);
        doc.each("by 1", -2, i -> x.atBy(0, 2, 1, i, 0), 3, 4, MOST);
        doc.says("NONE: no such ones, one and the same");
        doc.each("no such k", -1, k -> x.atBy(0, 2, k, 0, 0), -1, 5, LEAST, MOST);
        doc.each("no such s", -1, s -> x.atBy(s, 2, 0, 0, 0), NO_STOP);
        doc.each("no such t", -1, t -> x.atBy(0, t, 0, 0, 0), NO_STOP);
        doc.each("the same", -1, s -> x.atBy(s, s, 0, 0, 0), 0, 1, 2);
        doc.each("no such what", -1, what -> x.atBy(0, 2, 0, 0, what), -1, 3, LEAST, MOST);
        doc.each("no such k, ahead of -2", -1, k -> x.atBy(0, 2, k, 9, 0), -1, 5);
    }

    private static final String WALKED = "stop a 1;stop b 2;stop c 3;stop d 4;stop e 5;stop f 6;walk a b 20;walk c d 6;walk e f 7;"
        + "trip b 105 110 a 115 120 c;trip d 130 140 e 150 160 a;";

    private void waits() {
        DayProfiles x = doc.read(WALKED);
        doc.in("Terms 3");
        doc.says("WAITS of an UNFOLDED one: ARR less DEP less all minutes on RIDES (from where a LEG's RIDE on leaves to where its RIDE off comes) and all WALKS");
        rows(x, 1, 5, row(105, 147, 1));
        doc.due("but for the stay at a", x.waits(1, 5, 0, 0), 42 - 15 - 6 - 10 - 7);
        rows(x, 0, 5, row(115, 147, 1));
        doc.due("from a", x.waits(0, 5, 0, 0), 32 - 5 - 6 - 10 - 7);
        doc.due("a walk first", doc.read("stop a 9;stop b 9;stop c 9;walk a b 5;trip b 10 20 c;").waits(0, 2, 0, 0), 0);
        doc.due("a change is waiting, too", doc.read("stop a 0;stop b 7;stop c 0;trip a 1 2 b;trip b 9 10 c;").waits(0, 2, 0, 0), 7);
        doc.says("SLACK of one: the least by which a LEG but the first leaves later than one can be there (-2: one LEG)");
        doc.due("by a walk", x.waits(0, 5, 0, 1), 4);
        x.delay(0, 0, 4);
        doc.due("just in time", x.waits(0, 5, 0, 1), 0);
        DayProfiles row = doc.read(ROW);
        doc.due("the least", row.waits(0, 5, 0, 1), 0);
        row.delay(4, 0, 3);
        doc.due("the least of several", row.waits(3, 5, 0, 1), 3);
        doc.due("the least of several", row.waits(0, 5, 0, 1), 0);
        doc.due("one leg", row.waits(0, 1, 0, 1), -2);
        doc.in("Promise 25");
        doc.says("WAITS (what 0), SLACK (1) of the i-th in the PROFILE");
        doc.due("waits", row.waits(3, 5, 0, 0), 4);
        doc.due("slack", row.waits(3, 5, 0, 1), 3);
        doc.says("-2: there are not so many, it has one LEG (of 1)");
        doc.each("waits", -2, i -> row.waits(3, 5, i, 0), 1, 2, MOST);
        doc.each("slack", -2, i -> row.waits(3, 5, i, 1), 1, 2, MOST);
        doc.due("one leg", row.waits(0, 1, 0, 1), -2);
        doc.due("one leg waits", row.waits(0, 1, 0, 0), 0);
        doc.says("NONE: no such ones, one and the same");
        DayProfiles small = doc.read(SMALL);
        doc.each("no such s", -1, s -> small.waits(s, 2, 0, 0), NO_STOP);
        doc.each("no such t", -1, t -> small.waits(0, t, 0, 0), NO_STOP);
        doc.each("the same", -1, s -> small.waits(s, s, 0, 0), 0, 1, 2);
        doc.each("no such what", -1, what -> small.waits(0, 2, 0, what), -1, 2, LEAST, MOST);
        doc.each("no such what, ahead of -2", -1, what -> small.waits(0, 2, 3, what), -1, 2);
    }

    private void travels() {
        DayProfiles x = doc.read(WALKED);
        doc.in("Promise 37");
        doc.says("Of the UNFOLDED i-th in the PROFILE, what 0 all minutes on RIDES (as of WAITS), 1 all WALKS, 2 how many RIDES");
        doc.due("on rides", x.travels(1, 5, 0, 0), 25);
        doc.due("walks", x.travels(1, 5, 0, 1), 13);
        doc.due("rides", x.travels(1, 5, 0, 2), 3);
        doc.due("walks of none", doc.read(ROW).travels(0, 5, 0, 1), 0);
        doc.due("rides of five legs", doc.read(ROW).travels(0, 5, 0, 2), 5);
        DayProfiles y = doc.read("stop a 0;stop b 0;stop c 0;walk a b 5;trip b 10 20 c;");
        doc.due("the first walk", y.travels(0, 2, 0, 1), 5);
        doc.says("-2: there are not so many");
        for (int what = 0; what <= 2; what++) {
            int asked = what;
            doc.each("travels", -2, i -> x.travels(1, 5, i, asked), 1, 2, MOST);
        }
        doc.says("NONE: no such ones, one and the same");
        DayProfiles small = doc.read(SMALL);
        doc.each("no such s", -1, s -> small.travels(s, 2, 0, 0), NO_STOP);
        doc.each("no such t", -1, t -> small.travels(0, t, 0, 0), NO_STOP);
        doc.each("the same", -1, s -> small.travels(s, s, 0, 0), 0, 1, 2);
        doc.each("no such what", -1, what -> small.travels(0, 2, 0, what), -1, 3, LEAST, MOST);
        doc.each("no such what, ahead of -2", -1, what -> small.travels(0, 2, 3, what), -1, 3);
    }

    private void hub() {
        doc.in("Terms 3");
        doc.says("HUB: the STOP where most LEGS, but the last, of all UNFOLDED ones of all PROFILES end, the first of several");
        DayProfiles x = doc.read("stop a 0;stop b 0;stop c 0;stop d 0;trip a 10 20 c;trip c 30 40 b;trip b 50 60 d;");
        doc.due("a b, a d end at c; c d, a d at b", x.hub(0), 1);
        doc.due("two", x.hub(1), 2);
        x.cancel(2, 0, 1, true);
        doc.due("only c", x.hub(0), 2);
        doc.due("one", x.hub(1), 1);
        DayProfiles ends = doc.read("stop a 0;stop b 0;stop c 0;stop d 0;trip c 10 20 a;trip a 30 40 d;trip c 10 20 b;trip b 30 40 d;"
            + "trip d 50 60 b;trip b 70 80 a;");
        doc.due("c a d, a d b, c d b", ends.hub(0), 0);
        doc.due("asked again", ends.hub(1), ends.hub(1));
        DayProfiles first = doc.read("stop a 0;stop b 0;stop c 0;stop d 0;trip b 10 20 a;trip a 30 35 c;trip d 10 20 b;trip b 36 40 c;");
        doc.due("b a c ends at a, d b c at b", first.hub(1), 1);
        doc.due("asked again", first.hub(1), 1);
        doc.due("the first", first.hub(0), 0);
        DayProfiles toFirst = doc.read("stop a 0;stop b 0;stop c 0;trip b 10 20 c;trip c 30 40 a;");
        doc.due("to the first stop, too", toFirst.hub(0), 2);
        DayProfiles last = doc.read("stop a 0;stop b 0;stop c 0;walk b c 5;trip a 10 20 b;trip c 30 40 a;");
        doc.due("where the leg ends, not where one gets on", last.hub(0), -2);
        DayProfiles walked = doc.read("stop a 0;stop b 0;stop c 0;stop d 0;walk b c 5;trip a 10 20 c;trip b 30 40 d;");
        doc.due("where the leg ends, not where one gets on", walked.hub(0), 2);
        doc.in("Promise 26");
        doc.says("HUB, what 0 the STOP, 1 how many LEGS end there");
        DayProfiles row = doc.read(ROW);
        doc.due("stop", row.hub(0), 3);
        doc.due("legs", row.hub(1), 8);
        doc.says("-2: there are none");
        x.cancel(1, 0, 1, true);
        doc.due("no leg but last ones", x.hub(0), -2);
        doc.due("no leg but last ones", x.hub(1), -2);
        doc.due("a new one", new DayProfiles().hub(0), -2);
        doc.due("a new one", new DayProfiles().hub(1), -2);
        doc.says("NONE for another what");
        doc.each("hub", -1, row::hub, -1, 2, LEAST, MOST);
        doc.each("hub, ahead of -2", -1, x::hub, -1, 2, LEAST, MOST);
    }

    private void gap() {
        doc.in("Promise 27");
        doc.says("The greatest number of minutes between a DEP in the PROFILE and the next one that is unlike");
        DayProfiles x = doc.read("stop a 0;stop b 0;stop c 0;trip a 10 11 b;trip a 30 31 b;trip a 35 36 b;trip a 9 10 b;");
        doc.due("20", x.gap(0, 1), 20);
        x.cancel(1, 0, 1, true);
        doc.due("25", x.gap(0, 1), 25);
        x.cancel(0, 0, 1, true);
        doc.due("26", x.gap(0, 1), 26);
        DayProfiles tie = doc.read("stop a 0;stop b 0;stop c 0;trip a 10 20 b 30 40 c;trip b 25 35 c;trip a 50 60 b 70 80 c;trip b 65 75 c;"
            + "trip a 51 81 c;");
        doc.due("rows", tie.profile(0, 2), 5);
        doc.due("like ones are passed over", tie.gap(0, 2), 40);
        doc.says("-2: there are fewer than two");
        doc.due("none", x.gap(1, 0), -2);
        x.cancel(2, 0, 1, true);
        doc.due("one", x.gap(0, 1), -2);
        tie.cancel(2, 0, 3, true);
        tie.cancel(3, 0, 3, true);
        tie.cancel(4, 0, 3, true);
        doc.due("two that leave alike", tie.profile(0, 2), 2);
        doc.due("two that leave alike", tie.gap(0, 2), -2);
        doc.says("NONE: no such ones, one and the same");
        doc.each("no such s", -1, s -> x.gap(s, 1), NO_STOP);
        doc.each("no such t", -1, t -> x.gap(0, t), NO_STOP);
        doc.each("the same", -1, s -> x.gap(s, s), 0, 1, 2);
    }

    // ---- promises 34, 36 ----

    private void quickest() {
        doc.in("Promise 34");
        doc.says("Of the PROFILE the one with the least ARR less DEP, the first of several, what 0 as the how-manieth it stands, 1 these minutes");
        DayProfiles x = doc.read("stop a 0;stop b 0;stop c 0;trip a 1 9 b;trip a 5 11 b;trip a 7 13 b;trip a 8 15 b;");
        doc.due("which", x.quickest(0, 1, 0), 1);
        doc.due("minutes", x.quickest(0, 1, 1), 6);
        x.cancel(1, 0, 1, true);
        doc.due("which", x.quickest(0, 1, 0), 1);
        x.cancel(2, 0, 1, true);
        doc.due("the last", x.quickest(0, 1, 0), 1);
        doc.due("minutes", x.quickest(0, 1, 1), 7);
        x.cancel(3, 0, 1, true);
        doc.due("the first", x.quickest(0, 1, 0), 0);
        doc.due("minutes", x.quickest(0, 1, 1), 8);
        doc.says("-2: there is none");
        doc.due("none", x.quickest(1, 0, 0), -2);
        doc.due("none", x.quickest(1, 0, 1), -2);
        doc.says("NONE: no such ones, one and the same");
        doc.each("no such s", -1, s -> x.quickest(s, 1, 0), NO_STOP);
        doc.each("no such t", -1, t -> x.quickest(0, t, 0), NO_STOP);
        doc.each("the same", -1, s -> x.quickest(s, s, 0), 0, 1, 2);
        doc.each("no such what", -1, what -> x.quickest(0, 1, what), -1, 2, LEAST, MOST);
        doc.each("no such what, ahead of -2", -1, what -> x.quickest(1, 0, what), -1, 2);
    }

    private void breaks() {
        DayProfiles x = doc.read(SMALL);
        doc.in("Terms 3");
        doc.says("BROKEN by a TRIP d minutes later: an UNFOLDED one whose LEGS, as they are, wouldn't go any more (one could not be ON in time),"
            + " were all RIDES of the TRIP that much later");
        doc.due("just in time", x.breaks(0, 5, 2), 0);
        doc.due("too late", x.breaks(0, 6, 2), 1);
        doc.due("the later leg may be later", x.breaks(1, 240, 2), 0);
        doc.due("the only leg may be later", x.breaks(2, 240, 2), 0);
        DayProfiles twice = doc.read("stop a 0;stop b 0;stop c 0;stop d 0;walk b c 2;trip a 1 2 b 3 4 c 5 6 d;");
        twice.cancel(0, 1, 1, true);
        doc.due("both legs are of it", twice.leg(0, 3, 0, 1, 0), 2);
        doc.due("both are later", twice.breaks(0, 240, 3), 0);
        DayProfiles row = doc.read(ROW);
        doc.due("from a, b, c and from d", row.breaks(3, 1, 5), 4);
        doc.due("but none from e", row.breaks(4, 1, 5), 0);
        row.delay(4, 0, 2);
        doc.due("as of NOW", row.breaks(3, 2, 5), 0);
        doc.due("as of NOW", row.breaks(3, 3, 5), 4);
        doc.in("Promise 36");
        doc.says("How many of all PROFILES to t are BROKEN by a TRIP d (1 .. 240) minutes later");
        doc.due("the least", doc.read(ROW).breaks(2, 1, 5), 3);
        doc.due("the greatest", doc.read(ROW).breaks(2, 240, 5), 3);
        doc.says("NONE: no such ones");
        doc.each("no such d", -1, d -> x.breaks(0, d, 2), 0, 241, -1, LEAST, MOST);
        doc.each("no such trip", -1, trip -> x.breaks(trip, 1, 2), -1, 4, 20, LEAST, MOST);
        doc.each("no such t", -1, t -> x.breaks(0, 1, t), NO_STOP);
    }
}
