/** Terms 3 (plans) and promises 38 to 44: plans, why they break, and by how much. */
final class BoundariesOfPlans {
    private static final int LEAST = Integer.MIN_VALUE;
    private static final int MOST = Integer.MAX_VALUE;
    private static final int[] NO_STOP = {-1, 3, 10, LEAST, MOST};
    private static final int[] NO_RIDE = {-1, 5, 60, LEAST, MOST};
    private static final int[] NO_MINUTE = {-1, 1440, 2000, LEAST, MOST};
    private static final String SMALL = BoundariesOfProfiles.SMALL;
    private static final String ROW = BoundariesOfProfiles.ROW;

    private final Sentences doc;

    BoundariesOfPlans(Sentences doc) {
        this.doc = doc;
    }

    void run() {
        sixLegs();
        asOfNowOrAsTold();
        reasons();
        firstLeg();
        laterLegs();
        end();
        plan();
        planAnew();
        planAs();
        checked();
        causesAsTold();
        causesAhead();
        cause();
        tooLate();
        spare();
    }

    private DayProfiles planned(String text, int... rides) {
        DayProfiles x = doc.read(text);
        for (int i = 0; i + 1 < rides.length; i += 2) {
            doc.due("plan", x.plan(rides[i], rides[i + 1]), i / 2 + 1);
        }
        return x;
    }

    private void checkedIs(DayProfiles x, int s, int t, int m, boolean asTold, int... due) {
        for (int what = 0; what < 3; what++) {
            doc.due("checked " + s + " " + t + " " + m + " " + asTold + " " + what, x.checked(s, t, m, asTold, what), due[what]);
        }
    }

    // ---- Terms 3 ----

    private void sixLegs() {
        doc.in("Terms 3");
        doc.says("A PLAN: a row of LEGS, told one by one, 6 at most");
        DayProfiles x = planned(ROW, 0, 0, 1, 1, 2, 2, 3, 3, 4, 4, 5, 5);
        doc.due("a seventh", x.plan(5, 5), -3);
        doc.due("six", x.count(6), 6);
        checkedIs(x, 0, 6, 10, false, 0, -2, 21);
        x.delay(5, 0, -1);
        checkedIs(x, 0, 6, 10, false, 2, 5, -2);
    }

    private void asOfNowOrAsTold() {
        doc.says("CHECKED from s at minute m to t: does each LEG go, one after another, as of NOW (or as told: no DELAYS, nothing CANCELLED)?");
        DayProfiles x = planned(SMALL, 0, 0, 2, 2);
        checkedIs(x, 0, 2, 100, false, 0, -2, 140);
        x.delay(1, 0, 7);
        checkedIs(x, 0, 2, 100, false, 0, -2, 147);
        checkedIs(x, 0, 2, 100, true, 0, -2, 140);
        x.delay(0, 0, 13);
        checkedIs(x, 0, 2, 113, false, 2, 1, -2);
        checkedIs(x, 0, 2, 100, true, 0, -2, 140);
        checkedIs(x, 0, 2, 101, true, 2, 0, -2);
        x.cancel(1, 0, 1, true);
        x.cancel(0, 0, 1, true);
        checkedIs(x, 0, 2, 100, false, 1, 0, -2);
        checkedIs(x, 0, 2, 100, true, 0, -2, 140);
    }

    private void reasons() {
        doc.says("It BREAKS for the first LEG, of that one for the first reason");
        DayProfiles x = planned(SMALL, 0, 0, 2, 2, 0, 0);
        checkedIs(x, 0, 2, 100, false, 2, 2, -2);
        x.cancel(1, 0, 1, true);
        checkedIs(x, 0, 2, 100, false, 1, 1, -2);
        x.delay(0, 0, 20);
        checkedIs(x, 0, 2, 120, false, 1, 1, -2);
        checkedIs(x, 0, 2, 121, false, 2, 0, -2);
        x.cancel(0, 0, 1, true);
        checkedIs(x, 0, 2, 121, false, 1, 0, -2);
        checkedIs(x, 2, 0, 121, false, 1, 0, -2);
        DayProfiles last = planned(SMALL, 1, 1);
        checkedIs(last, 1, 0, 125, false, 3, 1, -2);
        checkedIs(last, 1, 0, 126, false, 2, 0, -2);
        last.cancel(0, 1, 1, true);
        checkedIs(last, 1, 0, 126, false, 1, 0, -2);
        doc.says("1 a RIDE of it (from the one on to the one off) is CANCELLED");
        String four = "stop a 0;stop b 0;trip a 1 2 b 3 4 a 5 6 b 7 8 a 9 10 b;";
        for (int ride = 0; ride < 5; ride++) {
            DayProfiles y = planned(four, 1, 3);
            y.cancel(0, ride, 1, true);
            boolean ofIt = ride >= 1 && ride <= 3;
            doc.due("ride " + ride, y.checked(1, 0, 3, false, 0), ofIt ? 1 : 0);
        }
    }

    private void firstLeg() {
        doc.says("2 one can't be there in time: of the first LEG: m and the WALK (none: never) is later than it leaves");
        DayProfiles x = planned("stop a 60;stop b 60;stop c 60;stop d 60;walk a b 10;trip b 50 60 c;", 0, 0);
        checkedIs(x, 1, 2, 50, false, 0, -2, 60);
        checkedIs(x, 1, 2, 51, false, 2, 0, -2);
        checkedIs(x, 0, 2, 40, false, 0, -2, 60);
        checkedIs(x, 0, 2, 41, false, 2, 0, -2);
        checkedIs(x, 3, 2, 0, false, 2, 0, -2);
        checkedIs(x, 3, 2, 0, true, 2, 0, -2);
    }

    private void laterLegs() {
        doc.says("else the CHANGE, the WALK from where the LEG ahead ended");
        DayProfiles change = planned("stop a 0;stop b 60;stop c 0;trip a 10 20 b;trip b 80 90 c;", 0, 0, 1, 1);
        checkedIs(change, 0, 2, 10, false, 0, -2, 90);
        change.delay(1, 0, -1);
        checkedIs(change, 0, 2, 10, false, 2, 1, -2);
        String text = "stop a 0;stop b 60;stop c 60;stop d 0;walk b c 30;trip a 10 20 b;trip c 50 60 d;";
        DayProfiles walk = planned(text, 0, 0, 1, 1);
        checkedIs(walk, 0, 3, 10, false, 0, -2, 60);
        walk.delay(0, 0, 1);
        checkedIs(walk, 0, 3, 10, false, 2, 1, -2);
        DayProfiles none = planned("stop a 0;stop b 0;stop c 0;stop d 0;trip a 10 20 b;trip c 1400 1410 d;", 0, 0, 1, 1);
        checkedIs(none, 0, 3, 10, false, 2, 1, -2);
        DayProfiles off = planned("stop a 0;stop b 5;stop c 5;trip a 1 2 b 3 4 c;trip c 9 12 a;trip b 7 9 c;", 0, 1, 2, 2);
        checkedIs(off, 0, 0, 1, false, 0, -2, 12);
        off.planAnew();
        off.plan(0, 1);
        off.plan(3, 3);
        checkedIs(off, 0, 2, 1, false, 2, 1, -2);
    }

    private void end() {
        doc.says("3 behind the last LEG there is no WALK to t (at the end: LEG how many there are)");
        DayProfiles x = planned(SMALL, 0, 0, 2, 2);
        checkedIs(x, 0, 2, 100, false, 0, -2, 140);
        checkedIs(x, 0, 1, 100, false, 0, -2, 170);
        checkedIs(x, 0, 0, 100, false, 3, 2, -2);
        checkedIs(x, 0, 0, 100, true, 3, 2, -2);
        x.planAnew();
        x.plan(0, 0);
        checkedIs(x, 0, 0, 100, false, 3, 1, -2);
        DayProfiles six = planned(ROW, 0, 0, 1, 1, 2, 2, 3, 3, 4, 4, 5, 5);
        checkedIs(six, 0, 0, 10, false, 3, 6, -2);
    }

    // ---- promises 38 to 41 ----

    private void plan() {
        DayProfiles x = doc.read(SMALL);
        doc.in("Promise 38");
        doc.says("A LEG comes behind the PLAN: how many LEGS it has");
        doc.due("on is off", x.plan(0, 0), 1);
        doc.due("two", x.plan(2, 2), 2);
        doc.due("two rides", x.plan(0, 1), 3);
        checkedIs(x, 0, 2, 100, false, 2, 2, -2);
        doc.says("-2: the RIDES aren't of one TRIP, the RIDE off is ahead of the RIDE on");
        doc.due("not of one trip", x.plan(1, 2), -2);
        doc.due("neither", x.plan(2, 1), -2);
        doc.due("off is ahead", x.plan(1, 0), -2);
        doc.due("as it was", x.count(6), 3);
        doc.says("-3: it has 6");
        for (int legs = 4; legs <= 6; legs++) {
            doc.due("more", x.plan(0, 0), legs);
        }
        doc.due("it has 6", x.plan(0, 0), -3);
        doc.due("as it was", x.count(6), 6);
        doc.due("-2 ahead of -3", x.plan(1, 0), -2);
        doc.says("NONE: no such RIDES");
        doc.each("ahead of -3", -1, on -> x.plan(on, 0), NO_RIDE);
        x.planAnew();
        doc.each("no such on", -1, on -> x.plan(on, 0), NO_RIDE);
        doc.each("no such off", -1, off -> x.plan(0, off), NO_RIDE);
        doc.each("no such ones", -1, ride -> x.plan(ride, ride), NO_RIDE);
        doc.due("as it was", x.count(6), 0);
        doc.due("the last one", x.plan(4, 4), 1);
        x.cancel(3, 0, 1, true);
        doc.due("a cancelled one", x.plan(4, 4), 2);
    }

    private void planAnew() {
        DayProfiles x = planned(SMALL, 0, 0, 2, 2);
        doc.in("Promise 39");
        doc.says("The PLAN is empty: how many LEGS it had");
        doc.due("two", x.planAnew(), 2);
        doc.due("empty", x.count(6), 0);
        doc.due("none", x.planAnew(), 0);
        doc.due("a first one", x.plan(3, 3), 1);
        checkedIs(x, 0, 2, 100, false, 0, -2, 160);
        for (int legs = 2; legs <= 6; legs++) {
            x.plan(3, 3);
        }
        doc.due("six", x.planAnew(), 6);
        doc.due("a new one", new DayProfiles().planAnew(), 0);
    }

    private void planAs() {
        DayProfiles x = planned(SMALL, 4, 4, 4, 4, 4, 4);
        doc.in("Promise 40");
        doc.says("-2: there are not so many");
        doc.each("planAs", -2, i -> x.planAs(0, 2, i), 3, 4, MOST);
        doc.due("an empty profile", x.planAs(2, 1, 0), -2);
        doc.due("as it was", x.count(6), 3);
        doc.says("NONE: no such ones, one and the same");
        doc.each("no such s", -1, s -> x.planAs(s, 2, 0), NO_STOP);
        doc.each("no such t", -1, t -> x.planAs(0, t, 0), NO_STOP);
        doc.each("the same", -1, s -> x.planAs(s, s, 0), 0, 1, 2);
        doc.due("as it was", x.count(6), 3);
        doc.says("The UNFOLDED i-th in the PROFILE of s, t is the PLAN: how many LEGS");
        doc.due("two", x.planAs(0, 2, 0), 2);
        checkedIs(x, 0, 2, 100, false, 0, -2, 140);
        doc.due("two", x.count(6), 2);
        doc.due("one", x.planAs(0, 2, 2), 1);
        checkedIs(x, 0, 2, 110, false, 0, -2, 160);
        doc.due("one", x.count(6), 1);
        doc.due("five", doc.read(ROW).planAs(0, 5, 0), 5);
        x.delay(2, 0, 9);
        checkedIs(x, 0, 2, 110, false, 0, -2, 169);
        doc.due("one more", x.plan(0, 0), 2);
    }

    private void checked() {
        DayProfiles x = doc.read(SMALL);
        doc.in("Promise 41");
        doc.says("-3: the PLAN is empty (ahead of -2)");
        checkedIs(x, 0, 2, 100, false, -3, -3, -3);
        checkedIs(x, 0, 0, 100, true, -3, -3, -3);
        doc.says("CHECKED from s at minute m (0 .. 1439) to t, as told (else as of NOW),"
            + " what 0 the reason for which it BREAKS (0: it doesn't), 1 the LEG, 2 ARR");
        x.plan(0, 0);
        x.plan(2, 2);
        checkedIs(x, 0, 2, 0, false, 0, -2, 140);
        checkedIs(x, 0, 2, 1439, false, 2, 0, -2);
        checkedIs(x, 0, 0, 0, false, 3, 2, -2);
        x.cancel(1, 0, 1, true);
        checkedIs(x, 0, 2, 0, false, 1, 1, -2);
        checkedIs(x, 0, 2, 0, true, 0, -2, 140);
        doc.says("-2: of 1: it doesn't BREAK, of 2: it BREAKS");
        doc.due("it doesn't break", x.checked(0, 2, 0, true, 1), -2);
        doc.due("it breaks", x.checked(0, 2, 0, false, 2), -2);
        doc.due("it breaks at the end", x.checked(0, 0, 0, true, 2), -2);
        doc.says("NONE: no such ones");
        doc.each("no such s", -1, s -> x.checked(s, 2, 0, false, 0), NO_STOP);
        doc.each("no such t", -1, t -> x.checked(0, t, 0, false, 0), NO_STOP);
        doc.each("no such m", -1, m -> x.checked(0, 2, m, false, 0), NO_MINUTE);
        doc.each("no such what", -1, what -> x.checked(0, 2, 0, false, what), -1, 3, LEAST, MOST);
        x.planAnew();
        doc.each("no such s, ahead of -3", -1, s -> x.checked(s, 2, 0, false, 0), NO_STOP);
        doc.each("no such t, ahead of -3", -1, t -> x.checked(0, t, 0, true, 1), NO_STOP);
        doc.each("no such m, ahead of -3", -1, m -> x.checked(0, 2, m, false, 2), NO_MINUTE);
        doc.each("no such what, ahead of -3", -1, what -> x.checked(0, 2, 0, false, what), -1, 3, LEAST, MOST);
    }

    // ---- promises 42 to 44 ----

    private static final String CHAIN = "stop a 5;stop b 5;stop c 5;stop d 5;stop e 5;"
        + "trip a 100 120 b;trip b 130 140 c;trip c 150 160 d;trip d 170 180 e;";

    private DayProfiles chain() {
        return planned(CHAIN, 0, 0, 1, 1, 2, 2, 3, 3);
    }

    private void causesAsTold() {
        doc.in("Terms 3");
        doc.says("CAUSE: of 2, if one could be there in time for that LEG as told"
            + " (asked of that LEG alone: from s at m, or from where and when the LEG ahead ends as told)");
        DayProfiles x = chain();
        doc.due("the first, not as told", x.cause(0, 4, 101), -3);
        x.delay(0, 0, -1);
        doc.due("the first, as told", x.cause(0, 4, 100), 0);
        doc.due("the first, not as told", x.cause(0, 4, 101), -3);
        DayProfiles one = planned(CHAIN, 0, 0);
        doc.due("the only one, not as told", one.cause(0, 1, 101), -3);
        one.delay(0, 0, -1);
        doc.due("the only one, as told", one.cause(0, 1, 100), 0);
        doc.due("the only one", one.tooLate(0, 1, 100), 1);
        DayProfiles y = chain();
        y.delay(0, 0, 6);
        doc.due("the second, as told; the first not: it is asked of alone", y.cause(0, 4, 106), 0);
        DayProfiles told = planned("stop a 5;stop b 5;stop c 5;trip a 100 120 b;trip b 124 140 c;", 0, 0, 1, 1);
        doc.due("the second, not as told", told.cause(0, 2, 100), -3);
        told.delay(0, 0, 6);
        doc.due("the second, not as told, late", told.cause(0, 2, 100), -3);
        told.delay(1, 0, 7);
        doc.due("it goes NOW", told.cause(0, 2, 100), -2);
        DayProfiles exact = planned("stop a 5;stop b 5;stop c 5;trip a 100 120 b;trip b 125 140 c;", 0, 0, 1, 1);
        exact.delay(0, 0, 1);
        doc.due("as told just in time", exact.cause(0, 2, 100), 0);
    }

    private void causesAhead() {
        doc.says("the last LEG ahead whose RIDE off comes at another time than told (else the LEG itself)");
        DayProfiles x = chain();
        x.delay(0, 0, 6);
        doc.due("the first", x.cause(0, 4, 100), 0);
        x.delay(1, 0, 6);
        doc.due("the second", x.cause(0, 4, 100), 1);
        DayProfiles y = chain();
        y.delay(0, 0, 1);
        y.delay(1, 0, 1);
        y.delay(3, 0, -6);
        doc.due("not the one right ahead", y.cause(0, 4, 100), 1);
        y.delay(1, 0, 0);
        doc.due("further ahead", y.cause(0, 4, 100), 0);
        y.delay(0, 0, 0);
        doc.due("the leg itself", y.cause(0, 4, 100), 3);
        y.delay(0, 0, -1);
        doc.due("earlier than told, too", y.cause(0, 4, 99), 0);
        DayProfiles off = planned("stop a 5;stop b 5;stop c 5;stop d 5;trip a 100 110 b 120 130 c;trip b 130 140 d;", 0, 0, 2, 2);
        off.delay(0, 1, 9);
        off.delay(1, 0, -16);
        doc.due("its ride off comes as told, one behind doesn't", off.cause(0, 3, 100), 1);
        off.planAnew();
        off.plan(0, 1);
        off.plan(2, 2);
        doc.due("there is no walk as told, either", off.cause(0, 3, 100), -3);
        DayProfiles on = planned("stop a 5;stop b 5;stop c 5;stop d 5;trip a 100 110 b 120 130 c;trip c 135 140 d;", 0, 1, 2, 2);
        on.delay(0, 1, 1);
        doc.due("its ride on as told, its ride off not", on.cause(0, 3, 100), 0);
    }

    private void cause() {
        doc.in("Promise 42");
        doc.says("CAUSE of the reason 2 for which the PLAN BREAKS from s at minute m to t NOW: the LEG");
        DayProfiles x = chain();
        x.delay(2, 0, 6);
        doc.due("the leg ahead", x.cause(0, 4, 100), 2);
        doc.says("-2: it doesn't BREAK for 2 (also the PLAN is empty)");
        doc.due("it doesn't break", chain().cause(0, 4, 100), -2);
        doc.due("it breaks for 3", chain().cause(0, 0, 100), -2);
        x.cancel(2, 0, 1, true);
        doc.due("it breaks for 1", x.cause(0, 4, 100), -2);
        doc.due("empty", doc.read(CHAIN).cause(0, 4, 100), -2);
        doc.says("-3: one could not be there in time as told, either");
        doc.due("too late", chain().cause(0, 4, 101), -3);
        doc.due("no walk", chain().cause(1, 4, 0), -3);
        doc.says("NONE: no such ones");
        DayProfiles small = planned(SMALL, 0, 0);
        doc.each("no such s", -1, s -> small.cause(s, 2, 101), NO_STOP);
        doc.each("no such t", -1, t -> small.cause(0, t, 101), NO_STOP);
        doc.each("no such m", -1, m -> small.cause(0, 2, m), NO_MINUTE);
        small.planAnew();
        doc.each("no such s, ahead of -2", -1, s -> small.cause(s, 2, 101), NO_STOP);
    }

    private void tooLate() {
        doc.in("Promise 43");
        doc.says("By how many minutes one is too late for the LEG for which the PLAN BREAKS by reason 2 NOW");
        doc.due("the first", chain().tooLate(0, 4, 101), 1);
        doc.due("the first", chain().tooLate(0, 4, 1439), 1339);
        DayProfiles x = chain();
        x.delay(1, 0, 6);
        doc.due("the third", x.tooLate(0, 4, 100), 1);
        x.delay(1, 0, 240);
        doc.due("the third", x.tooLate(0, 4, 100), 235);
        DayProfiles walk = planned("stop a 9;stop b 9;stop c 9;stop d 9;walk a b 10;walk c d 20;trip b 50 60 c;trip d 79 90 a;", 0, 0, 1, 1);
        doc.due("the first, by a walk", walk.tooLate(0, 0, 42), 2);
        doc.due("the second, by a walk", walk.tooLate(0, 0, 40), 1);
        doc.says("-2: it doesn't BREAK for 2, there is no WALK (also the PLAN is empty)");
        doc.due("it doesn't break", chain().tooLate(0, 4, 100), -2);
        doc.due("it breaks for 3", chain().tooLate(0, 0, 100), -2);
        x.cancel(0, 0, 1, true);
        doc.due("it breaks for 1", x.tooLate(0, 4, 100), -2);
        doc.due("no walk", chain().tooLate(1, 4, 0), -2);
        doc.due("no walk to the second", planned(CHAIN, 0, 0, 2, 2).tooLate(0, 4, 100), -2);
        doc.due("empty", doc.read(CHAIN).tooLate(0, 4, 100), -2);
        doc.says("NONE: no such ones");
        DayProfiles small = planned(SMALL, 0, 0);
        doc.each("no such s", -1, s -> small.tooLate(s, 2, 101), NO_STOP);
        doc.each("no such t", -1, t -> small.tooLate(0, t, 101), NO_STOP);
        doc.each("no such m", -1, m -> small.tooLate(0, 2, m), NO_MINUTE);
        small.planAnew();
        doc.each("no such t, ahead of -2", -1, t -> small.tooLate(0, t, 101), NO_STOP);
    }

    private void spare() {
        doc.in("Promise 44");
        doc.says("The least time to spare of the PLAN NOW from s at minute m: of all LEGS when it leaves less when one can be there");
        doc.due("of the first", chain().spare(0, 4, 96), 4);
        doc.due("of the first, none", chain().spare(0, 4, 100), 0);
        doc.due("of the others", chain().spare(0, 4, 0), 5);
        DayProfiles x = chain();
        x.delay(3, 0, -2);
        doc.due("of the last", x.spare(0, 4, 0), 3);
        x.delay(2, 0, -1);
        doc.due("of the third too, NOW", x.spare(0, 4, 0), 4);
        doc.due("one leg, by a walk", planned("stop a 9;stop b 9;stop c 9;walk a b 10;trip b 1400 1401 c;", 0, 0).spare(0, 2, 0), 1390);
        doc.says("-2: it BREAKS, the PLAN is empty");
        doc.due("for 2", chain().spare(0, 4, 101), -2);
        doc.due("for 2, no walk", chain().spare(1, 4, 0), -2);
        doc.due("for 3", chain().spare(0, 0, 100), -2);
        x.cancel(3, 0, 1, true);
        doc.due("for 1", x.spare(0, 4, 0), -2);
        doc.due("empty", doc.read(CHAIN).spare(0, 4, 0), -2);
        doc.says("NONE: no such ones");
        DayProfiles small = planned(SMALL, 0, 0);
        doc.each("no such s", -1, s -> small.spare(s, 2, 100), NO_STOP);
        doc.each("no such t", -1, t -> small.spare(0, t, 100), NO_STOP);
        doc.each("no such m", -1, m -> small.spare(0, 2, m), NO_MINUTE);
        small.planAnew();
        doc.each("no such m, ahead of -2", -1, m -> small.spare(0, 2, m), NO_MINUTE);
    }
}
