/** Terms 2 (delays), 4 and promises 8 to 10, 45: delays, cancelled rides, what can be undone. */
final class BoundariesOfTimes {
    private static final int LEAST = Integer.MIN_VALUE;
    private static final int MOST = Integer.MAX_VALUE;
    /** RIDES 0 to 2 of TRIP 0, RIDE 3 of TRIP 1. */
    private static final String THREE = "stop a 5;stop b 5;stop c 5;trip a 70 80 b 90 100 c 100 120 a;trip a 60 65 c;";

    private final Sentences doc;

    BoundariesOfTimes(Sentences doc) {
        this.doc = doc;
    }

    void run() {
        asOfNow();
        cancelledAsOfNow();
        delaysOfTrips();
        refused();
        delay();
        cancel();
        undo();
        whatCanBeUndone();
        whatIsAskedChangesNothing();
        whatIsRefusedChangesNothing();
        count();
    }

    private void leave(DayProfiles x, int... minutes) {
        for (int ride = 0; ride < minutes.length; ride++) {
            doc.due("ride " + ride + " leaves", x.ride(ride, 5), minutes[ride]);
            int onTheWay = x.ride(ride, 4) - x.ride(ride, 3);
            doc.due("ride " + ride + " comes", x.ride(ride, 6), minutes[ride] + onTheWay);
        }
    }

    /** Each TRIP seven minutes later; a new one for each question, as nothing asked ahead shall help. */
    private DayProfiles sevenLater() {
        DayProfiles x = doc.read(BoundariesOfProfiles.SMALL);
        for (int trip = 0; trip < 4; trip++) {
            x.delay(trip, 0, 7);
        }
        return x;
    }

    private void asOfNow() {
        doc.in("Terms 2");
        doc.says("NOW: each RIDE leaves and comes so many minutes later");
        doc.due("earliest", sevenLater().earliest(0, 2, 107, 4), 147);
        doc.due("latest", sevenLater().latest(0, 2, 147), 107);
        doc.due("latest", sevenLater().latest(0, 2, 146), -2);
        doc.due("reached", sevenLater().reached(0, 107, 40), 7);
        doc.due("reached", sevenLater().reached(0, 107, 39), 3);
        doc.due("costOfFewer", sevenLater().costOfFewer(0, 2, 107, 1), 10);
        doc.due("mean", sevenLater().mean(0, 2, 107, 108), 40);
        doc.due("fewest", sevenLater().fewest(0, 2, 107, 147), 1);
        doc.due("fewest", sevenLater().fewest(0, 2, 107, 146), -2);
        doc.due("missed", sevenLater().missed(0, 2, 111, 0), 2);
        doc.due("missed", sevenLater().missed(0, 2, 107, 1), 167);
        doc.due("via", sevenLater().via(0, 1, 2, 107), 147);
        doc.due("stay", sevenLater().stay(0, 1, 107, 142), 6);
        for (int what = 0; what <= 1; what++) {
            doc.due("meet", sevenLater().meet(0, 1, 107, what), what == 0 ? 1 : 127);
            doc.due("meet", sevenLater().meet(1, 0, 107, what), what == 0 ? 1 : 127);
        }
        doc.due("at", sevenLater().at(0, 2, 0, 0), 107);
        doc.due("atBy", sevenLater().atBy(0, 2, 0, 0, 1), 157);
        doc.due("board", sevenLater().board(1, 133, false, 0), 4);
        doc.due("late", sevenLater().late(0, 0, 2, 107), 6);
        someLater();
    }

    /** Where not all are as late as one another, what lies between them is other, too. */
    private void someLater() {
        DayProfiles stay = doc.read("stop a 0;stop b 0;stop c 0;trip a 10 20 b 20 30 c;");
        stay.delay(0, 1, 5);
        doc.due("waits", stay.waits(0, 2, 0, 0), 0);
        doc.due("travels", stay.travels(0, 2, 0, 0), 25);
        doc.due("quickest", stay.quickest(0, 2, 1), 25);
        String two = "stop a 0;stop b 0;trip a 10 20 b;trip a 30 40 b;";
        DayProfiles sooner = doc.read(two);
        sooner.delay(1, 0, -25);
        doc.due("next", sooner.next(0, 1, 5), 20);
        doc.due("gap", sooner.gap(0, 1), 5);
        DayProfiles later = doc.read(two + "trip a 50 60 b;");
        later.delay(0, 0, 240);
        doc.due("next", later.next(0, 1, 10), 60);
        doc.due("gap", later.gap(0, 1), 200);
        DayProfiles alone = doc.read("stop a 0;stop b 0;trip a 10 20 b;trip a 11 21 b;");
        alone.delay(0, 0, 5);
        alone.delay(1, 0, 10);
        doc.due("late", alone.late(0, 0, 1, 10), 1);
        doc.due("ifLate", alone.ifLate(0, -5, 0, 1, 10), 20);
        DayProfiles change = doc.read(BoundariesOfProfiles.ROW);
        change.delay(5, 0, 9);
        doc.due("slack", change.slack(4, 5), 9);
        doc.due("breaks", change.breaks(4, 8, 6), 0);
        doc.due("breaks", change.breaks(4, 10, 6), 4);
        change.delay(1, 0, -1);
        doc.due("hub: b is left too soon for those from a; from b, c ahead of d to three", change.hub(1), 6);
        doc.due("uses: none from a", change.uses(0, 2), 0);
    }

    private void cancelledAsOfNow() {
        doc.says("RIDES may be CANCELLED");
        DayProfiles x = doc.read(BoundariesOfProfiles.SMALL);
        x.cancel(1, 0, 1, true);
        doc.due("earliest", x.earliest(0, 2, 100, 4), 150);
        doc.due("latest", x.latest(0, 2, 149), -2);
        doc.due("reached", x.reached(0, 100, 40), 3);
        doc.due("costOfFewer", x.costOfFewer(0, 2, 100, 1), 0);
        doc.due("mean", x.mean(0, 2, 100, 101), 50);
        doc.due("fewest", x.fewest(0, 2, 100, 149), -2);
        doc.due("missed", x.missed(0, 2, 100, 1), 160);
        doc.due("via", x.via(0, 1, 2, 100), 150);
        doc.due("meet", x.meet(0, 2, 100, 1), 130);
        doc.due("next", x.next(0, 2, 100), 160);
        doc.due("profile", x.profile(0, 2), 2);
        doc.due("profileBy", x.profileBy(0, 2, 1), 2);
        doc.due("leg", x.leg(0, 2, 0, 1, 0), -2);
        doc.due("uses", x.uses(1, 2), 0);
        doc.due("breaks", x.breaks(0, 240, 2), 0);
        doc.due("hub", x.hub(0), -2);
        doc.due("board", x.board(1, 127, false, 0), -2);
        doc.due("slack", x.slack(0, 2), -1000);
        doc.due("late", x.late(1, 0, 2, 100), -2);
        doc.due("ifLate", x.ifLate(1, 0, 0, 2, 100), 150);
        x.cancel(3, 0, 1, true);
        doc.due("stay", x.stay(0, 1, 100, 140), -2);
    }

    private void delaysOfTrips() {
        doc.in("Terms 2");
        doc.says("as DELAYS of it say (0 at first)");
        DayProfiles x = doc.read(THREE);
        leave(x, 70, 90, 100, 60);
        doc.due("none is late", x.count(5), 0);
        doc.says("A DELAY of a TRIP from its j-th RIDE (0 on) on");
        x.delay(0, 0, 1);
        leave(x, 71, 91, 101, 60);
        doc.says("that one and all behind it are so many minutes later than told (in place of what they were;"
            + " RIDES ahead of the j-th stay as they are;");
        x.delay(0, 1, 5);
        leave(x, 71, 95, 105, 60);
        x.delay(0, 2, 9);
        leave(x, 71, 95, 109, 60);
        x.delay(0, 1, 2);
        leave(x, 71, 92, 102, 60);
        x.delay(0, 0, 0);
        leave(x, 70, 90, 100, 60);
        doc.says("-60 .. 240 a RIDE");
        doc.due("the least", x.delay(0, 0, -60), 3);
        leave(x, 10, 30, 40, 60);
        doc.due("the greatest", x.delay(0, 0, 240), 3);
        leave(x, 310, 330, 340, 60);
        doc.due("beyond", x.delay(0, 0, 241), -1);
        doc.due("beyond", x.delay(0, 0, -61), -1);
        leave(x, 310, 330, 340, 60);
        DayProfiles y = doc.read("stop a 0;stop b 0;trip a 1438 1439 b;");
        doc.due("beyond the day", y.delay(0, 0, 240), 1);
        leave(y, 1678);
    }

    private void refused() {
        doc.says("refused, if a RIDE of the TRIP would leave ahead of when the one ahead of it comes, or a time would be below 0)");
        DayProfiles x = doc.read(THREE);
        doc.due("just as the one ahead comes", x.delay(0, 1, -10), 2);
        doc.due("ahead of it", x.delay(0, 1, -11), -2);
        leave(x, 70, 80, 90, 60);
        doc.due("the last one, just as the one ahead comes NOW", x.delay(0, 2, -10), 0);
        doc.due("ahead of it", x.delay(0, 2, -11), -2);
        doc.due("the first one comes later", x.delay(0, 0, 30), 3);
        doc.due("as late as the one ahead needs", x.delay(0, 1, 20), 2);
        doc.due("ahead of it", x.delay(0, 1, 19), -2);
        x.cancel(0, 0, 1, true);
        doc.due("ahead of a cancelled one", x.delay(0, 1, 19), -2);
        leave(x, 100, 110, 120, 60);
        doc.due("another trip's ride ahead is nothing to it", x.delay(1, 0, -60), 1);
        doc.due("at 0", x.ride(3, 5), 0);
        DayProfiles y = doc.read("stop a 0;stop b 0;trip a 59 65 b 100 110 a;trip b 10 20 a;");
        doc.due("at 0", y.delay(0, 0, -59), 2);
        doc.due("below 0", y.delay(0, 0, -60), -2);
        leave(y, 0, 41);
        doc.due("at 0", y.delay(1, 0, -10), 1);
        doc.due("below 0", y.delay(1, 0, -11), -2);
        leave(y, 0, 41, 0);
    }

    private void delay() {
        doc.in("Promise 8");
        doc.says("A DELAY of a TRIP from its j-th RIDE on: how many RIDES have other times than ahead of it");
        DayProfiles x = doc.read(THREE);
        doc.due("none", x.delay(0, 0, 0), 0);
        doc.due("three", x.delay(0, 0, 3), 3);
        doc.due("none any more", x.delay(0, 0, 3), 0);
        doc.due("one", x.delay(0, 2, 4), 1);
        doc.due("two, one has it", x.delay(0, 0, 4), 2);
        doc.due("back", x.delay(0, 0, 0), 3);
        doc.says("-2: it is refused");
        doc.due("ahead of 0", x.delay(1, 0, -60), 1);
        doc.due("refused", x.delay(0, 2, -1), -2);
        doc.due("nothing is other", x.count(5), 1);
        doc.says("NONE: no such TRIP, RIDE, minutes (-60 .. 240)");
        doc.each("no such trip", -1, trip -> x.delay(trip, 0, 1), -1, 2, 20, LEAST, MOST);
        doc.each("no such ride", -1, j -> x.delay(0, j, 1), -1, 3, LEAST, MOST);
        doc.each("no such ride", -1, j -> x.delay(1, j, 1), -1, 1, 3, LEAST, MOST);
        doc.each("no such minutes", -1, minutes -> x.delay(0, 0, minutes), -61, 241, LEAST, MOST);
        doc.due("ahead of -2", x.delay(0, 2, -61), -1);
        doc.due("ahead of -2", x.delay(0, 3, -1), -1);
        doc.due("nothing is other", x.count(5), 1);
    }

    private void cancelled(DayProfiles x, int... due) {
        for (int ride = 0; ride < due.length; ride++) {
            doc.due("ride " + ride + " is cancelled", x.ride(ride, 7), due[ride]);
        }
    }

    private void cancel() {
        doc.in("Promise 9");
        doc.says("RIDES of a TRIP from its j-th on, n of them (as far as there are), are CANCELLED (off), or no more (not off)");
        DayProfiles x = doc.read(THREE);
        x.cancel(0, 1, 1, true);
        cancelled(x, 0, 1, 0, 0);
        x.cancel(0, 2, 2, true);
        cancelled(x, 0, 1, 1, 0);
        x.cancel(0, 0, 3, false);
        cancelled(x, 0, 0, 0, 0);
        x.cancel(0, 0, MOST, true);
        cancelled(x, 1, 1, 1, 0);
        x.cancel(0, 2, MOST, false);
        cancelled(x, 1, 1, 0, 0);
        x.cancel(1, 0, 9, true);
        cancelled(x, 1, 1, 0, 1);
        doc.says("how many are other than ahead of it");
        doc.due("none", x.cancel(0, 0, 2, true), 0);
        doc.due("one of three", x.cancel(0, 0, 3, true), 1);
        doc.due("two of three", x.cancel(0, 1, 60, false), 2);
        doc.due("none", x.cancel(0, 1, 60, false), 0);
        doc.says("NONE: no such TRIP, RIDE, n below 1");
        doc.each("no such trip", -1, trip -> x.cancel(trip, 0, 1, true), -1, 2, 20, LEAST, MOST);
        doc.each("no such ride", -1, j -> x.cancel(0, j, 1, true), -1, 3, LEAST, MOST);
        doc.each("no such ride", -1, j -> x.cancel(1, j, MOST, false), -1, 1, LEAST, MOST);
        doc.each("n", -1, n -> x.cancel(0, 0, n, true), 0, -1, LEAST);
        doc.each("n", -1, n -> x.cancel(0, 0, n, false), 0, -1, LEAST);
        cancelled(x, 1, 0, 0, 1);
        sixty();
    }

    /** The last ride of sixty is the highest bit that is in use. */
    private void sixty() {
        StringBuilder text = new StringBuilder("stop a 0;stop b 0;trip a");
        for (int i = 0; i < 60; i++) {
            text.append(' ').append(i).append(' ').append(i + 1).append(i % 2 == 0 ? " b" : " a");
        }
        DayProfiles x = doc.read(text + ";");
        doc.says("n of them (as far as there are)");
        doc.due("all", x.cancel(0, 0, 60, true), 60);
        doc.due("all", x.count(4), 60);
        doc.due("the last", x.cancel(0, 59, 1, false), 1);
        doc.due("it goes", x.earliest(1, 0, 0, 4), 60);
        doc.due("but the last", x.count(4), 59);
        doc.due("some", x.cancel(0, 31, 2, false), 2);
        cancelled(x, 1);
        doc.due("brought back", x.ride(31, 7) + x.ride(32, 7), 0);
        doc.due("cancelled", x.ride(30, 7) + x.ride(33, 7), 2);
    }

    private void undo() {
        doc.in("Promise 10");
        doc.says("NONE: there is none");
        DayProfiles x = doc.read(THREE);
        doc.due("none", x.undo(), -1);
        x.delay(0, 2, -1);
        x.delay(0, 0, 241);
        x.delay(0, 0, 0);
        x.cancel(0, 0, 0, true);
        x.cancel(0, 0, 3, false);
        doc.due("none changed a ride", x.undo(), -1);
        doc.says("The latest delay(), cancel() that changed a RIDE at least is undone: how many more can be");
        x.delay(0, 0, 5);
        x.delay(0, 2, 8);
        x.cancel(0, 1, 1, true);
        x.cancel(0, 0, 2, true);
        x.cancel(0, 0, 2, true);
        x.delay(0, 1, -6);
        doc.due("what can be", x.count(7), 4);
        doc.due("the last is undone", x.undo(), 3);
        cancelled(x, 0, 1, 0, 0);
        leave(x, 75, 95, 108, 60);
        doc.due("then", x.undo(), 2);
        cancelled(x, 0, 0, 0, 0);
        leave(x, 75, 95, 108, 60);
        doc.due("then", x.undo(), 1);
        leave(x, 75, 95, 105, 60);
        x.delay(1, 0, 10);
        doc.due("one more", x.undo(), 1);
        leave(x, 75, 95, 105, 60);
        doc.due("the first", x.undo(), 0);
        leave(x, 70, 90, 100, 60);
        doc.due("none", x.undo(), -1);
        undoneForProfiles();
    }

    private void undoneForProfiles() {
        DayProfiles x = doc.read(THREE);
        for (int t = 0; t < 3; t++) {
            int s = (t + 2) % 3;
            int dep = x.at(s, t, 0, 0);
            doc.due("delay", x.delay(0, 0, 3), 3);
            doc.due("later", x.at(s, t, 0, 0), dep + 3);
            doc.due("cancel", x.cancel(0, 0, 3, true), 3);
            doc.due("none", x.profile(s, t), 0);
            doc.due("no way", x.earliest(s, t, dep, 4), -2);
            x.undo();
            doc.due("later", x.at(s, t, 0, 0), dep + 3);
            doc.due("a way", x.earliest(s, t, dep + 3, 4), x.at(s, t, 0, 1));
            x.undo();
            doc.due("as told", x.at(s, t, 0, 0), dep);
        }
    }

    private void whatCanBeUndone() {
        doc.in("Terms 4");
        doc.says("DELAYS and CANCELLED RIDES can be undone by call, the latest first, 20 at most (the eldest are forgotten)");
        DayProfiles x = doc.read(THREE);
        for (int i = 1; i <= 20; i++) {
            x.delay(1, 0, i);
            doc.due("can be undone", x.count(7), i);
        }
        for (int i = 19; i >= 0; i--) {
            doc.due("undo", x.undo(), i);
            doc.due("as it was", x.ride(3, 5), 60 + i);
        }
        doc.due("all are undone", x.undo(), -1);
        for (int i = 1; i <= 21; i++) {
            x.delay(1, 0, i);
        }
        doc.due("20 at most", x.count(7), 20);
        for (int i = 19; i >= 0; i--) {
            doc.due("undo", x.undo(), i);
            doc.due("as it was", x.ride(3, 5), 61 + i);
        }
        doc.due("the first is forgotten", x.undo(), -1);
        leave(x, 70, 90, 100, 61);
        for (int i = 1; i <= 50; i++) {
            x.cancel(0, 0, 1, i % 2 == 1);
            x.delay(0, 1, i);
        }
        for (int i = 19; i >= 0; i--) {
            doc.due("undo", x.undo(), i);
        }
        doc.due("none", x.undo(), -1);
        leave(x, 70, 130, 140, 61);
        cancelled(x, 0, 0, 0, 0);
    }

    private void whatIsAskedChangesNothing() {
        doc.says("What is asked changes nothing");
        DayProfiles x = doc.read(THREE);
        x.delay(0, 1, 10);
        x.cancel(1, 0, 1, true);
        x.plan(0, 1);
        x.feed(1, 2, 3, 4, 5);
        String[] ahead = new String[] {face(x), asked(x)};
        for (int round = 0; round < 3; round++) {
            doc.due("asked again", asked(x).equals(ahead[1]) ? 1 : 0, 1);
            doc.due("nothing is other", face(x).equals(ahead[0]) ? 1 : 0, 1);
        }
    }

    /** All that can be told of the state. */
    private static String face(DayProfiles x) {
        StringBuilder all = new StringBuilder();
        for (int what = 0; what <= 8; what++) {
            all.append(x.count(what)).append(' ');
        }
        for (int ride = 0; ride < x.count(3); ride++) {
            for (int what = 0; what <= 8; what++) {
                all.append(x.ride(ride, what)).append(' ');
            }
        }
        return all.append(x.fault(0)).append(x.fault(1)).append(x.checked(0, 2, 0, false, 2)).toString();
    }

    private static String asked(DayProfiles x) {
        int[] answers = {x.walk(0, 1), x.change(0), x.profile(0, 2), x.at(0, 2, 0, 1), x.leg(0, 2, 0, 0, 1),
            x.earliest(0, 2, 0, 4), x.latest(0, 2, 2000), x.reached(0, 0, 200), x.costOfFewer(0, 2, 0, 1), x.mean(0, 2, 0, 9),
            x.late(0, 0, 2, 0), x.missed(0, 2, 0, 0), x.ifLate(0, 240, 0, 2, 0), x.ifLate(0, -60, 0, 2, 0), x.uses(0, 2),
            x.profileBy(0, 2, 0), x.atBy(0, 2, 1, 0, 0), x.waits(0, 2, 0, 0), x.hub(0), x.gap(0, 2), x.meet(0, 1, 0, 0),
            x.via(0, 1, 2, 0), x.stay(0, 2, 0, 2000), x.board(0, 0, false, 0), x.slack(0, 1), x.fewest(0, 2, 0, 2000),
            x.quickest(0, 2, 1), x.next(0, 2, 0), x.breaks(0, 240, 2), x.travels(0, 2, 0, 0), x.checked(0, 2, 0, true, 2),
            x.cause(0, 2, 1439), x.tooLate(0, 2, 1439), x.spare(0, 2, 0), x.count(4)};
        return java.util.Arrays.toString(answers);
    }

    private void whatIsRefusedChangesNothing() {
        doc.says("Of several answers that hold NONE goes first, then -2, then -3");
        DayProfiles x = doc.read(THREE);
        x.delay(0, 1, 10);
        x.cancel(1, 0, 1, true);
        for (int leg = 1; leg <= 6; leg++) {
            x.plan(0, 1);
        }
        x.feed(1, 2, 3, 4, 5);
        String ahead = face(x);
        doc.due("text: -2", x.text(-1), -2);
        doc.due("delay: NONE ahead of -2", x.delay(0, 1, -61), -1);
        doc.due("delay: -2", x.delay(0, 1, -11), -2);
        doc.due("plan: NONE ahead of -2, -3", x.plan(4, 3), -1);
        doc.due("plan: -2 ahead of -3", x.plan(1, 0), -2);
        doc.due("plan: -2 ahead of -3", x.plan(0, 3), -2);
        doc.due("plan: -3", x.plan(0, 0), -3);
        doc.due("planAs: NONE ahead of -2", x.planAs(0, 3, 99), -1);
        doc.due("planAs: -2", x.planAs(0, 2, 99), -2);
        doc.due("at: NONE ahead of -2", x.at(1, 1, 99, 0), -1);
        doc.due("at: NONE ahead of -2", x.at(0, 2, 99, 3), -1);
        doc.due("missed: NONE ahead of -2", x.missed(0, 2, 1439, 2), -1);
        doc.due("missed: -2", x.missed(0, 2, 1439, 1), -2);
        doc.due("stay: NONE ahead of -2", x.stay(0, 2, 1440, 0), -1);
        doc.due("stay: -2 ahead of -3", x.stay(0, 2, 0, 1), -2);
        doc.due("nothing is other", face(x).equals(ahead) ? 1 : 0, 1);
    }

    private void count() {
        doc.in("Promise 45");
        doc.says("0 STOPS, 1 walks told, 2 TRIPS, 3 RIDES, 4 CANCELLED RIDES, 5 RIDES whose times are other than told,"
            + " 6 LEGS of the PLAN, 7 what can be undone, 8 bytes of the TAPE");
        DayProfiles x = doc.read("stop a 5;stop b 5;stop c 5;walk a b 9;walk b a 9;trip a 70 80 b 90 100 c 100 120 a;trip a 60 65 c;");
        x.delay(0, 1, 7);
        x.delay(1, 0, -60);
        x.delay(1, 0, 0);
        x.cancel(0, 0, 3, true);
        x.plan(0, 1);
        x.feed(1, 2, 3, 4, 5);
        int[] due = {3, 2, 2, 4, 3, 2, 1, 4, 20};
        for (int what = 0; what <= 8; what++) {
            doc.due("count " + what, x.count(what), due[what]);
        }
        doc.says("NONE for another what");
        doc.each("count", -1, x::count, -1, 9, LEAST, MOST);
        doc.each("count of a new one", -1, new DayProfiles()::count, -1, 9, LEAST, MOST);
    }
}
