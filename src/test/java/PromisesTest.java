/** Each promise of the document: ordinary inputs, the edges that it names, wrong inputs. */
public final class PromisesTest {
    private static final Calls calls = new Calls();
    /** STOPS a 0, b 1, c 2; RIDES 0, 1 of TRIP 0; 2 of TRIP 1; 3 of TRIP 2; 4 of TRIP 3. */
    private static final String SMALL = "stop a 5;stop b 5;stop c 7;walk b c 30;"
        + "trip a 100 120 b 125 150 c;trip b 130 140 c;trip a 110 160 c;trip b 126 135 a;";

    public static void main(String[] args) {
        newObject();
        feed();
        text();
        fault();
        ride();
        walkAndChange();
        delay();
        cancel();
        undo();
        undoLimit();
        profile();
        beatenByWalking();
        departsAtZero();
        leg();
        legTies();
        fourChanges();
        earliest();
        latest();
        reached();
        costOfFewer();
        mean();
        late();
        missed();
        ifLate();
        uses();
        by();
        waitsAndTravels();
        hub();
        gap();
        meet();
        via();
        stay();
        board();
        slack();
        fewest();
        quickest();
        next();
        breaks();
        plan();
        planAs();
        checked();
        cause();
        tooLateAndSpare();
        count();
        calls.end();
    }

    private static void due(String call, long got, long want) {
        calls.due(call, got, want);
    }

    private static DayProfiles of(String text) {
        DayProfiles x = new DayProfiles();
        if (Calls.text(x, text) < 0) {
            due("text " + text + " has a fault at " + x.fault(1), x.fault(0), 0);
        }
        return x;
    }

    private static DayProfiles small() {
        return of(SMALL);
    }

    // Promise 1
    private static void newObject() {
        DayProfiles x = new DayProfiles();
        due("NONE", DayProfiles.NONE, -1);
        for (int what = 0; what <= 8; what++) {
            due("1 count " + what, x.count(what), 0);
        }
        due("1 planAnew", x.planAnew(), 0);
        due("1 text(0)", x.text(0), 0);
        due("1 earliest", x.earliest(0, 0, 0, 0), -1);
    }

    // Promise 2
    private static void feed() {
        DayProfiles x = new DayProfiles();
        for (int i = 1; i <= 45; i++) {
            due("2 feed " + i, x.feed(0x20202020, 0x20202020, 0x0a202020, 0x20202020, 0x2020200a), 20 * i);
        }
        due("2 feed beyond 900", x.feed(0, 0, 0, 0, 0), -1);
        due("2 none came", x.count(8), 900);
        due("2 blanks alone", x.text(900), 0);
        due("2 empty then", x.count(8), 0);
        due("2 the highest byte first", x.feed(0x73746f70, 0x20612035, 0x3b7f80ff, 0x80000000, -1), 20);
        due("2 read", x.text(9), 1);
        due("2 signs that are no tokens", x.feed(0x73746f70, 0x2061e135, 0x3b202020, 0, 0), 20);
        due("2 a byte above 127", x.text(9), -1);
        due("2 its place", x.fault(1), 6);
    }

    // Promise 3
    private static void text() {
        DayProfiles x = small();
        due("3 rides", x.count(3), 5);
        x.delay(0, 0, 10);
        x.cancel(1, 0, 1, true);
        x.plan(0, 0);
        Calls.feed(x, "stop z 1;");
        due("3 below 0", x.text(-1), -2);
        due("3 not so many", x.text(21), -2);
        due("3 the least", x.text(Integer.MIN_VALUE), -2);
        due("3 the tape stays", x.count(8), 20);
        due("3 a fault", x.text(8), -1);
        due("3 the tape is empty", x.count(8), 0);
        due("3 all else stays: stops", x.count(0), 3);
        due("3 all else stays: cancelled", x.count(4), 1);
        due("3 all else stays: delays", x.count(5), 2);
        due("3 all else stays: plan", x.count(6), 1);
        due("3 all else stays: undo", x.count(7), 2);
        due("3 all else stays: earliest", x.earliest(0, 2, 100, 4), 160);
        due("3 anew", Calls.text(x, SMALL), 8);
        for (int what = 4; what <= 8; what++) {
            due("3 anew, count " + what, x.count(what), 0);
        }
        due("3 anew, earliest", x.earliest(0, 2, 100, 4), 140);
        due("3 anew, undo", x.undo(), -1);
        due("3 profile", x.profile(0, 2), 3);
        due("3 another text", Calls.text(x, "stop a 5;stop b 5;stop c 5;walk a b 1;trip a 7 9 c;"), 5);
        due("3 its profile", x.profile(0, 2), 1);
        due("3 its arrival", x.at(0, 2, 0, 1), 9);
        for (int round = 0; round < 4; round++) {
            due("3 the first again", Calls.text(x, SMALL), 8);
            due("3 its walks", x.count(1), 1);
            due("3 its trips", x.count(2), 4);
            due("3 its rides", x.count(3), 5);
            due("3 its walk", x.walk(0, 1), -2);
            due("3 its hub", x.hub(1), 1);
        }
        due("3 the empty text", x.text(0), 0);
        due("3 no stops", x.count(0), 0);
        due("3 no rides", Calls.thrownBy(x, 0, 0), 1);
    }

    private static void faultIs(String text, int fault, int place) {
        DayProfiles x = new DayProfiles();
        due("4 text " + text, Calls.text(x, text), fault == 0 ? lines(text) : -1);
        if (fault != 0) {
            due("4 fault of " + text, x.fault(0), fault);
            due("4 place in " + text, x.fault(1), place);
        }
    }

    private static int lines(String text) {
        return (int) text.chars().filter(sign -> sign == ';').count();
    }

    // Promise 4
    private static void fault() {
        DayProfiles x = new DayProfiles();
        due("4 ahead of any", x.fault(0), 0);
        due("4 ahead of any, place", x.fault(1), -1);
        due("4 another what", x.fault(-1), -1);
        due("4 another what", x.fault(2), -1);
        Calls.text(x, "stop");
        due("4 fault", x.fault(0), 1);
        due("4 another what with a fault", x.fault(2), -1);
        x.text(1);
        due("4 of the latest that was not -2", x.fault(1), 4);
        Calls.text(x, "stop a 0;");
        due("4 good again", x.fault(0), 0);
        due("4 good again, place", x.fault(1), -1);
        String ab = "stop a 0;stop b 0;";
        faultIs("stop a0;stop b60;walk a b240;walk b a 1;trip a0 1439b;", 0, 0);
        faultIs("stop abcdef 0060;", 0, 0);
        faultIs("stop abcdefg 0;", 1, 5);
        faultIs("stop stop 0;", 1, 5);
        faultIs("stop a 0;walk trip a 5;", 1, 14);
        faultIs("Stop a 0;", 1, 0);
        faultIs("stopa 0;", 1, 0);
        faultIs(";", 1, 0);
        faultIs("stop a 0;;", 1, 9);
        faultIs("stop a 0", 1, 8);
        faultIs("stop a 0 \n ", 1, 11);
        faultIs("stop a;", 1, 6);
        faultIs("stop 5 a;", 1, 5);
        faultIs("stop a\t0;", 1, 6);
        faultIs("stop a 61;", 2, 7);
        faultIs("stop a 99999999999999999999;", 2, 7);
        faultIs("stop a 4294967296;", 2, 7);
        faultIs("stop a 0;stop a 61;", 3, 14);
        faultIs(ab + "walk a b 0;", 2, 27);
        faultIs(ab + "walk a b 241;", 2, 27);
        faultIs(ab + "walk a a 241;", 3, 25);
        faultIs(ab + "walk a c 5;", 1, 25);
        faultIs(ab + "walk c a 5;", 1, 23);
        faultIs(ab + "trip a 0 1;", 1, 28);
        faultIs(ab + "trip a;", 1, 24);
        faultIs(ab + "trip c 0 1 a;", 1, 23);
        faultIs(ab + "trip a 1440 1441 b;", 2, 25);
        faultIs(ab + "trip a 1439 1440 b;", 2, 30);
        faultIs(ab + "trip a 5 5 b;", 4, 27);
        faultIs(ab + "trip a 5 4 b;", 4, 27);
        faultIs(ab + "trip a 5 6 a;", 3, 29);
        faultIs(ab + "trip a 5 6 b 6 7 a;", 0, 0);
        faultIs(ab + "trip a 5 6 b 5 7 a;", 4, 31);
        faultIs(ab + "trip a 5 6 b 6 6 a;", 4, 33);
        faultIs(ab + "trip a 5 6 b 6 7 b;", 3, 35);
        faultIs(ab + "trip a 5 6 b a;", 1, 31);
        faultIs(ab + "trip a 5 6 b 6;", 1, 32);
        faultIs(ab + "trip a 5 6 b", 1, 30);
        faultIs(ab + "trip a 5 6 c", 1, 29);
        limits(ab);
    }

    private static void limits(String ab) {
        StringBuilder stops = new StringBuilder();
        for (char name = 'a'; name <= 'j'; name++) {
            stops.append("stop ").append(name).append(" 0;");
        }
        faultIs(stops.toString(), 0, 0);
        faultIs(stops + "stop k 99;", 2, stops.length());
        faultIs(stops + " stop a 99;", 2, stops.length() + 1);
        String walks = ab + "walk a b 5;".repeat(12);
        faultIs(walks, 0, 0);
        faultIs(walks + "walk a a 0;", 2, walks.length());
        String trips = ab + "trip a 1 2 b;".repeat(20);
        faultIs(trips, 0, 0);
        faultIs(trips + "trip a 1 2 b;", 2, trips.length());
        String rides = ab + "trip a" + " 1 2 b 2 3 a".repeat(1) + ";";
        StringBuilder many = new StringBuilder(ab).append("trip a");
        for (int i = 0; i < 60; i++) {
            many.append(' ').append(i).append(' ').append(i + 1).append(i % 2 == 0 ? " b" : " a");
        }
        faultIs(rides, 0, 0);
        faultIs(many + ";", 0, 0);
        faultIs(many + " 70 71 b;", 2, many.length() + 1);
        faultIs(many + " 0 1440 b;", 2, many.length() + 1);
        faultIs(many + " b", 1, many.length() + 1);
        faultIs(many + ";trip b 1 0 b;", 2, many.length() + 8);
        faultIs(many + ";trip b b;", 1, many.length() + 8);
    }

    private static void rideIs(DayProfiles x, int i, int... answers) {
        for (int what = 0; what < answers.length; what++) {
            due("5 ride " + i + " " + what, x.ride(i, what), answers[what]);
        }
    }

    // Promise 5
    private static void ride() {
        DayProfiles x = small();
        rideIs(x, 0, 0, 0, 1, 100, 120, 100, 120, 0, 1);
        rideIs(x, 1, 0, 1, 2, 125, 150, 125, 150, 0, -2);
        rideIs(x, 4, 3, 1, 0, 126, 135, 126, 135, 0, -2);
        x.delay(0, 1, 240);
        x.cancel(0, 1, 1, true);
        rideIs(x, 1, 0, 1, 2, 125, 150, 365, 390, 1, -2);
        due("5 no such ride", Calls.thrownBy(x, 5, 0), 1);
        due("5 no such ride", Calls.thrownBy(x, -1, 0), 1);
        due("5 neither", Calls.thrownBy(x, 5, 9), 1);
        due("5 no such what", Calls.thrownBy(x, 4, 9), 2);
        due("5 no such what", Calls.thrownBy(x, 0, -1), 2);
        due("5 the least", Calls.thrownBy(x, Integer.MIN_VALUE, Integer.MIN_VALUE), 1);
    }

    // Promises 6, 7
    private static void walkAndChange() {
        DayProfiles x = of("stop a 0;stop b 60;stop c 1;stop d 2;stop e 3;"
            + "walk a b 50;walk b a 40;walk b c 10;walk a c 60;walk d e 240;");
        due("6 the shorter one told", x.walk(0, 1), 40);
        due("6 by walks", x.walk(0, 2), 50);
        due("6 the other way", x.walk(2, 0), 50);
        due("6 one's own", x.walk(3, 3), 0);
        due("6 none", x.walk(2, 3), -2);
        due("6 no such", x.walk(5, 0), -1);
        due("6 no such", x.walk(0, -1), -1);
        due("7 change", x.change(1), 60);
        due("7 change", x.change(0), 0);
        due("7 no such", x.change(5), -1);
        due("7 no such", x.change(-1), -1);
    }

    // Promise 8
    private static void delay() {
        DayProfiles x = small();
        due("8 all rides", x.delay(0, 0, 10), 2);
        due("8 the same again", x.delay(0, 0, 10), 0);
        due("8 in place of what it was", x.delay(0, 1, 20), 1);
        due("8 ahead stays", x.ride(0, 5), 110);
        due("8 so many later than told", x.ride(1, 5), 145);
        due("8 as early as can be", x.delay(0, 1, 5), 1);
        due("8 ahead of when the one ahead comes", x.delay(0, 1, 4), -2);
        due("8 refused: as it was", x.ride(1, 5), 130);
        due("8 some have it already", x.delay(0, 0, 5), 1);
        due("8 more", x.delay(0, 0, 240), 2);
        due("8 the least", x.delay(0, 0, -60), 2);
        due("8 beyond", x.delay(0, 0, 241), -1);
        due("8 beyond", x.delay(0, 0, -61), -1);
        due("8 no such trip", x.delay(4, 0, 0), -1);
        due("8 no such trip", x.delay(-1, 0, 0), -1);
        due("8 no such ride", x.delay(0, 2, 0), -1);
        due("8 no such ride", x.delay(1, 1, 0), -1);
        due("8 no such ride", x.delay(0, -1, 0), -1);
        DayProfiles y = of("stop a 0;stop b 0;trip a 30 40 b;");
        due("8 minute 0", y.delay(0, 0, -30), 1);
        due("8 below 0", y.delay(0, 0, -31), -2);
        due("8 as it was", y.ride(0, 5), 0);
        DayProfiles z = of("stop a 0;stop b 0;trip a 1 2 b 1430 1439 a;");
        due("8 beyond the day", z.delay(0, 1, 240), 1);
        due("8 comes the day after", z.ride(1, 6), 1679);
        due("8 first later than the second", of("stop a 0;stop b 0;trip a 1 2 b 2 3 a;").delay(0, 0, 5), 2);
    }

    // Promise 9
    private static void cancel() {
        DayProfiles x = of("stop a 0;stop b 0;trip a 1 2 b 3 4 a 5 6 b 7 8 a;");
        due("9 two", x.cancel(0, 1, 2, true), 2);
        due("9 which", x.ride(0, 7) * 1000 + x.ride(1, 7) * 100 + x.ride(2, 7) * 10 + x.ride(3, 7), 110);
        due("9 as far as there are", x.cancel(0, 2, Integer.MAX_VALUE, true), 1);
        due("9 none is other", x.cancel(0, 1, 3, true), 0);
        due("9 brought back", x.cancel(0, 0, 2, false), 1);
        due("9 cancelled", x.count(4), 2);
        due("9 n below 1", x.cancel(0, 0, 0, true), -1);
        due("9 n below 1", x.cancel(0, 0, -5, false), -1);
        due("9 no such ride", x.cancel(0, 4, 1, true), -1);
        due("9 no such ride", x.cancel(0, -1, 2, true), -1);
        due("9 no such trip", x.cancel(1, 0, 1, true), -1);
    }

    // Promise 10
    private static void undo() {
        DayProfiles x = small();
        due("10 none", x.undo(), -1);
        x.delay(0, 0, 10);
        x.delay(0, 0, 10);
        x.delay(0, 1, -60);
        x.cancel(0, 0, 1, true);
        x.cancel(0, 0, 1, true);
        x.delay(0, 1, 30);
        due("10 only what changed", x.count(7), 3);
        due("10 the latest first", x.undo(), 2);
        due("10 minutes", x.ride(1, 5), 135);
        due("10 cancelled still", x.ride(0, 7), 1);
        due("10 then", x.undo(), 1);
        due("10 no more", x.ride(0, 7), 0);
        due("10 delayed still", x.earliest(0, 2, 100, 4), 160);
        due("10 the last", x.undo(), 0);
        due("10 as told", x.earliest(0, 2, 100, 4), 140);
        due("10 there is none", x.undo(), -1);
    }

    private static void undoLimit() {
        DayProfiles x = small();
        for (int i = 1; i <= 25; i++) {
            due("10 delay", x.delay(1, 0, i), 1);
            due("10 can be undone", x.count(7), Math.min(i, 20));
        }
        for (int i = 19; i >= 0; i--) {
            due("10 undo", x.undo(), i);
        }
        due("10 the eldest are forgotten", x.ride(2, 5), 135);
        due("10 none left", x.undo(), -1);
    }

    private static void rowIs(DayProfiles x, int s, int t, int i, int... row) {
        for (int what = 0; what < row.length; what++) {
            due("12 at " + s + " " + t + " " + i + " " + what, x.at(s, t, i, what), row[what]);
        }
    }

    // Promises 11, 12
    private static void profile() {
        DayProfiles x = small();
        due("11 profile", x.profile(0, 2), 3);
        rowIs(x, 0, 2, 0, 100, 140, 1);
        rowIs(x, 0, 2, 1, 100, 150, 0);
        rowIs(x, 0, 2, 2, 110, 160, 0);
        due("12 not so many", x.at(0, 2, 3, 0), -2);
        due("12 not so many", x.at(0, 2, Integer.MAX_VALUE, 0), -2);
        due("12 no such what", x.at(0, 2, 0, 3), -1);
        due("12 no such what", x.at(0, 2, 9, -1), -1);
        due("12 one and the same", x.at(1, 1, 0, 0), -1);
        due("12 no such", x.at(0, 3, 0, 0), -1);
        due("12 below 0", x.at(0, 2, -1, 0), -1);
        due("11 one and the same", x.profile(1, 1), -1);
        due("11 no such", x.profile(-1, 1), -1);
        due("11 no such", x.profile(0, 3), -1);
        due("11 none", x.profile(2, 1), 0);
        DayProfiles y = of("stop a 0;stop b 0;trip a 10 20 b;trip a 10 30 b;trip a 5 20 b;trip a 10 20 b;");
        due("11 alike ones once", y.profile(0, 1), 1);
        rowIs(y, 0, 1, 0, 10, 20, 0);
        y.cancel(0, 0, 1, true);
        y.cancel(3, 0, 1, true);
        due("11 cancelled ones don't beat", y.profile(0, 1), 2);
        rowIs(y, 0, 1, 0, 5, 20, 0);
        rowIs(y, 0, 1, 1, 10, 30, 0);
    }

    private static void beatenByWalking() {
        DayProfiles x = of("stop a 0;stop b 0;walk a b 10;trip a 10 20 b;trip a 30 39 b;trip a 50 61 b;");
        due("11 as long as the walk", x.profile(0, 1), 1);
        rowIs(x, 0, 1, 0, 30, 39, 0);
        due("11 the other way", x.profile(1, 0), 0);
    }

    private static void departsAtZero() {
        DayProfiles x = of("stop a 0;stop b 9;stop c 0;walk a b 20;trip b 20 30 c;trip b 19 25 c;");
        due("11 0 at least, no change at first", x.profile(0, 2), 1);
        rowIs(x, 0, 2, 0, 0, 30, 0);
        due("11 a walk in the end", x.profile(1, 2), 2);
        DayProfiles y = of("stop a 0;stop b 9;stop c 0;walk c b 20;trip a 20 30 b;");
        rowIs(y, 0, 2, 0, 20, 50, 0);
    }

    // Promise 13
    private static void leg() {
        DayProfiles x = small();
        due("13 on", x.leg(0, 2, 0, 0, 0), 0);
        due("13 off", x.leg(0, 2, 0, 0, 1), 0);
        due("13 second on", x.leg(0, 2, 0, 1, 0), 2);
        due("13 second off", x.leg(0, 2, 0, 1, 1), 2);
        due("13 no third", x.leg(0, 2, 0, 2, 0), -2);
        due("13 walks from b, the least off", x.leg(0, 2, 1, 0, 1), 0);
        due("13 not so many", x.leg(0, 2, 3, 0, 0), -2);
        due("13 no such what", x.leg(0, 2, 0, 0, 2), -1);
        due("13 no such what", x.leg(0, 2, 0, 0, -1), -1);
        due("13 below 0", x.leg(0, 2, -1, 0, 0), -1);
        due("13 below 0", x.leg(0, 2, 0, -1, 0), -1);
        due("13 one and the same", x.leg(0, 0, 0, 0, 0), -1);
        due("13 no such", x.leg(0, 3, 0, 0, 0), -1);
        DayProfiles y = of("stop a 0;stop b 0;stop c 0;trip a 1 2 b 3 4 c 5 6 a;");
        due("13 stays on", y.leg(0, 2, 0, 0, 1), 1);
        y.cancel(0, 1, 1, true);
        due("13 can't stay on", y.profile(0, 2), 0);
    }

    private static void legTies() {
        DayProfiles x = of("stop a 0;stop b 0;stop c 0;stop d 0;"
            + "trip a 10 20 c;trip a 10 20 b 25 30 c;trip c 30 40 d;trip c 30 40 d;trip b 22 30 c;trip a 10 20 b;");
        due("13 one of several", x.profile(0, 3), 1);
        due("13 the least on", x.leg(0, 3, 0, 0, 0), 0);
        due("13 the least second on", x.leg(0, 3, 0, 1, 0), 3);
        x.cancel(0, 0, 1, true);
        due("13 then the next on", x.leg(0, 3, 0, 0, 0), 1);
        due("13 its only off", x.leg(0, 3, 0, 0, 1), 2);
        x.cancel(1, 1, 1, true);
        due("13 by two changes", x.at(0, 3, 0, 2), 2);
        due("13 the least row", x.leg(0, 3, 0, 0, 0), 1);
        due("13 its second", x.leg(0, 3, 0, 1, 0), 5);
        due("13 its third", x.leg(0, 3, 0, 2, 0), 3);
    }

    private static void fourChanges() {
        String line = "stop a 1;stop b 1;stop c 1;stop d 1;stop e 1;stop f 1;stop g 1;"
            + "trip a 10 11 b;trip b 12 13 c;trip c 14 15 d;trip d 16 17 e;trip e 18 19 f;trip f 20 21 g;";
        DayProfiles x = of(line);
        rowIs(x, 0, 5, 0, 10, 19, 4);
        due("13 the fifth leg", x.leg(0, 5, 0, 4, 1), 4);
        due("11 five changes are too many", x.profile(0, 6), 0);
        due("14 too many, too", x.earliest(0, 6, 0, 4), -2);
        due("14 four", x.earliest(0, 5, 0, 4), 19);
        due("14 three", x.earliest(0, 5, 0, 3), -2);
        due("15 latest", x.latest(0, 5, 19), 10);
        due("15 latest by five", x.latest(0, 6, 2000), -2);
        due("16 reached", x.reached(0, 10, 100), 63);
        due("29 via", x.via(0, 5, 6, 10), 21);
        due("33 fewest", x.fewest(0, 5, 0, 2000), 4);
        due("33 none", x.fewest(0, 6, 0, 2000), -2);
        due("40 planAs", x.planAs(0, 5, 0), 5);
        due("38 a sixth", x.plan(5, 5), 6);
        due("41 goes", x.checked(0, 6, 10, false, 2), 21);
        due("38 has six", x.plan(5, 5), -3);
    }

    // Promise 14
    private static void earliest() {
        DayProfiles x = small();
        due("14 by change", x.earliest(0, 2, 100, 1), 140);
        due("14 without", x.earliest(0, 2, 100, 0), 150);
        due("14 walking", x.earliest(1, 2, 100, 0), 130);
        due("14 walking, late", x.earliest(1, 2, 1439, 0), 1469);
        due("14 no way", x.earliest(0, 2, 111, 4), -2);
        due("14 one and the same", x.earliest(2, 2, 1439, 4), 1439);
        due("14 m", x.earliest(0, 2, -1, 4), -1);
        due("14 m", x.earliest(0, 2, 1440, 4), -1);
        due("14 k", x.earliest(0, 2, 0, 5), -1);
        due("14 k", x.earliest(0, 2, 0, -1), -1);
        due("14 no such", x.earliest(3, 2, 0, 0), -1);
        due("14 no such", x.earliest(2, -1, 0, 0), -1);
        x.delay(2, 0, 240);
        due("14 as of NOW", x.earliest(0, 2, 111, 4), 400);
        DayProfiles y = of("stop a 3;stop b 3;stop c 3;walk b c 1;trip a 1 10 b;trip b 12 20 a;trip b 13 21 a;trip c 11 19 a;");
        due("14 a walk needs no change", y.earliest(0, 0, 1, 4), 1);
        due("33 by a walk", y.slack(0, 3), 0);
        due("33 too early at the stop", y.slack(0, 1), -1);
        due("33 in time at the stop", y.slack(0, 2), 0);
    }

    // Promise 15
    private static void latest() {
        DayProfiles x = small();
        due("15 latest", x.latest(0, 2, 159), 100);
        due("15 latest", x.latest(0, 2, 2000), 110);
        due("15 none", x.latest(0, 2, 139), -2);
        due("15 walking", x.latest(1, 2, 2000), 1970);
        due("15 walking at 0", x.latest(1, 2, 30), 0);
        due("15 0 at least", x.latest(1, 2, 29), -2);
        due("15 one and the same", x.latest(1, 1, 0), 0);
        due("15 m", x.latest(1, 2, 2001), -1);
        due("15 m", x.latest(1, 2, -1), -1);
        due("15 no such", x.latest(1, 3, 0), -1);
        due("15 rides beat walking", of("stop a 0;stop b 0;walk a b 9;trip a 3 5 b;").latest(0, 1, 6), 3);
    }

    // Promise 16
    private static void reached() {
        DayProfiles x = small();
        due("16 all", x.reached(0, 100, 40), 7);
        due("16 one less", x.reached(0, 100, 39), 3);
        due("16 one's own", x.reached(2, 1439, 0), 4);
        due("16 walking", x.reached(2, 1439, 30), 6);
        due("16 n", x.reached(0, 0, 2001), -1);
        due("16 n", x.reached(0, 0, -1), -1);
        due("16 m", x.reached(0, 1440, 0), -1);
        due("16 no such", x.reached(3, 0, 0), -1);
    }

    // Promise 17
    private static void costOfFewer() {
        DayProfiles x = small();
        due("17 cost", x.costOfFewer(0, 2, 100, 1), 10);
        due("17 nothing", x.costOfFewer(0, 2, 100, 4), 0);
        due("17 no way", x.costOfFewer(0, 2, 111, 1), -1000);
        due("17 k", x.costOfFewer(0, 2, 100, 0), -1000);
        due("17 k", x.costOfFewer(0, 2, 100, 5), -1000);
        due("17 m", x.costOfFewer(0, 2, -1, 1), -1000);
        due("17 one and the same", x.costOfFewer(1, 1, 100, 1), -1000);
        due("17 no such", x.costOfFewer(1, 3, 100, 1), -1000);
        DayProfiles y = of("stop a 0;stop b 0;stop c 0;trip a 1 2 b;trip b 3 4 c;");
        due("17 none with fewer", y.costOfFewer(0, 2, 0, 1), 5000);
        due("17 two are as good", y.costOfFewer(0, 2, 0, 2), 0);
    }

    // Promise 18
    private static void mean() {
        DayProfiles x = small();
        due("18 downwards", x.mean(0, 2, 99, 102), 46);
        due("18 one minute", x.mean(0, 2, 110, 111), 50);
        due("18 left out", x.mean(0, 2, 110, 1440), 50);
        due("18 none", x.mean(0, 2, 111, 1440), -2);
        due("18 walking", x.mean(1, 2, 200, 1440), 30);
        due("18 a below b", x.mean(0, 2, 5, 5), -1);
        due("18 a", x.mean(0, 2, -1, 5), -1);
        due("18 b", x.mean(0, 2, 0, 1441), -1);
        due("18 one and the same", x.mean(0, 0, 0, 5), -1);
        due("18 no such", x.mean(0, 3, 0, 5), -1);
        x.delay(2, 0, 240);
        due("18 later ones", x.mean(0, 2, 349, 351), 50);
        due("18 the day", of("stop a 0;stop b 0;trip a 1438 1439 b;").mean(0, 1, 0, 1440), 720);
    }

    // Promise 19
    private static void late() {
        DayProfiles x = small();
        due("19 missed by one", x.late(0, 0, 2, 100), 6);
        due("19 the last trip", x.late(1, 0, 2, 100), 1);
        due("19 not in use", x.late(2, 0, 2, 100), -2);
        due("19 no way", x.late(2, 0, 2, 111), -3);
        due("19 no such trip", x.late(4, 0, 2, 100), -1);
        due("19 no such trip", x.late(-1, 0, 2, 100), -1);
        due("19 one and the same", x.late(0, 1, 1, 100), -1);
        due("19 m", x.late(0, 0, 2, 1440), -1);
        due("19 no such", x.late(0, 0, 3, 1), -1);
        DayProfiles y = of("stop a 0;stop b 0;stop c 0;trip a 10 20 b;trip b 260 261 c;trip a 5 6 c;");
        due("19 as late as 240", y.late(0, 0, 2, 6), -2);
        y.delay(1, 0, -1);
        due("19 no way any more is later", y.late(0, 0, 2, 6), 240);
        DayProfiles z = of("stop a 0;stop b 0;trip a 10 20 b;trip a 15 25 b;");
        due("19 till another one is as good", z.late(0, 0, 1, 10), 1);
        due("19 nothing is later", z.late(1, 0, 1, 10), -2);
    }

    // Promise 20
    private static void missed() {
        DayProfiles x = small();
        due("20 trip", x.missed(0, 2, 100, 0), 0);
        due("20 earliest", x.missed(0, 2, 100, 1), 160);
        due("20 no way", x.missed(0, 2, 111, 0), -2);
        due("20 no way at all is latest", x.missed(0, 2, 110, 0), 2);
        due("20 no way at all", x.missed(0, 2, 110, 1), -3);
        due("20 walking: the first", x.missed(1, 2, 200, 0), 0);
        due("20 walking: as it is", x.missed(1, 2, 200, 1), 230);
        x.cancel(0, 0, 2, true);
        due("20 all cancelled: not that one", x.missed(1, 2, 200, 0), 1);
        due("20 what", x.missed(0, 2, 100, 2), -1);
        due("20 one and the same", x.missed(1, 1, 100, 0), -1);
        due("20 m", x.missed(0, 2, -1, 0), -1);
        due("20 no trip", of("stop a 0;stop b 0;walk a b 5;").missed(0, 1, 0, 1), -2);
    }

    // Promise 21
    private static void ifLate() {
        DayProfiles x = small();
        due("21 later", x.ifLate(0, 6, 0, 2, 100), 156);
        due("21 ahead of m", x.ifLate(0, -1, 0, 2, 100), 160);
        due("21 earlier in time", x.ifLate(2, -60, 0, 2, 50), 100);
        due("21 than NOW", x.delay(2, 0, 240), 1);
        due("21 than NOW", x.ifLate(2, 240, 0, 2, 101), 640);
        due("21 nothing changes", x.ride(3, 5), 350);
        due("21 one and the same", x.ifLate(0, 0, 1, 1, 7), 7);
        due("21 no way", x.ifLate(2, -60, 0, 2, 300), -2);
        due("21 d", x.ifLate(0, 241, 0, 2, 100), -1);
        due("21 d", x.ifLate(0, -61, 0, 2, 100), -1);
        due("21 m", x.ifLate(0, 0, 0, 2, 1440), -1);
        due("21 no such", x.ifLate(4, 0, 0, 2, 100), -1);
        due("21 no such", x.ifLate(0, 0, 0, 3, 100), -1);
        due("21 below 0 nothing leaves", of("stop a 0;stop b 0;trip a 5 100 b;").ifLate(0, -6, 0, 1, 0), -2);
    }

    // Promise 22
    private static void uses() {
        DayProfiles x = small();
        due("22 uses", x.uses(0, 2), 2);
        due("22 uses", x.uses(1, 2), 2);
        due("22 uses", x.uses(2, 2), 1);
        due("22 not", x.uses(3, 2), 0);
        due("22 to a", x.uses(3, 0), 2);
        due("22 no such", x.uses(4, 2), -1);
        due("22 no such", x.uses(0, 3), -1);
    }

    // Promises 23, 24
    private static void by() {
        DayProfiles x = small();
        due("23 by 0", x.profileBy(0, 2, 0), 2);
        due("23 by 4", x.profileBy(0, 2, 4), 3);
        due("23 k", x.profileBy(0, 2, 5), -1);
        due("23 k", x.profileBy(0, 2, -1), -1);
        due("23 one and the same", x.profileBy(0, 0, 0), -1);
        due("24 by 0", x.atBy(0, 2, 0, 0, 1), 150);
        due("24 by 1", x.atBy(0, 2, 1, 0, 1), 140);
        due("24 changes", x.atBy(0, 2, 1, 0, 2), 1);
        due("24 dep", x.atBy(0, 2, 0, 1, 0), 110);
        due("24 not so many", x.atBy(0, 2, 0, 2, 0), -2);
        due("24 what", x.atBy(0, 2, 0, 0, 3), -1);
        due("24 k", x.atBy(0, 2, 5, 0, 0), -1);
        due("24 no such", x.atBy(0, 3, 0, 0, 0), -1);
        due("24 one and the same", x.atBy(1, 1, 0, 0, 0), -1);
        due("24 below 0", x.atBy(0, 2, 0, -1, 0), -1);
    }

    // Promises 25, 37
    private static void waitsAndTravels() {
        DayProfiles y = of("stop a 1;stop b 2;stop c 3;stop d 4;stop e 5;stop f 6;walk a b 5;walk c d 6;walk e f 7;"
            + "trip b 105 110 a 112 120 c;trip d 130 140 e;trip e 145 146 c 150 160 e;");
        rowIs(y, 0, 5, 0, 112, 147, 1);
        due("25 waits", y.waits(0, 5, 0, 0), 35 - 8 - 6 - 10 - 7);
        due("25 slack", y.waits(0, 5, 0, 1), 4);
        due("37 on rides", y.travels(0, 5, 0, 0), 18);
        due("37 walks", y.travels(0, 5, 0, 1), 13);
        due("37 rides", y.travels(0, 5, 0, 2), 2);
        due("25 one leg", y.waits(0, 2, 0, 1), -2);
        due("25 one leg waits", y.waits(0, 2, 0, 0), 0);
        due("25 not so many", y.waits(0, 5, 1, 0), -2);
        due("25 what", y.waits(0, 5, 0, 2), -1);
        due("25 one and the same", y.waits(5, 5, 0, 0), -1);
        due("25 below 0", y.waits(0, 5, -1, 0), -1);
        due("37 not so many", y.travels(0, 5, 1, 0), -2);
        due("37 what", y.travels(0, 5, 0, 3), -1);
        due("37 no such", y.travels(0, 6, 0, 0), -1);
        due("37 one and the same", y.travels(5, 5, 0, 0), -1);
        DayProfiles z = of("stop a 1;stop b 2;stop c 3;trip a 10 20 b 30 40 c;");
        due("37 the stop between is on rides", z.travels(0, 2, 0, 0), 30);
        due("37 two rides", z.travels(0, 2, 0, 2), 2);
        DayProfiles v = of("stop a 0;stop b 7;stop c 2;stop d 0;trip a 10 20 b;trip b 27 40 c;trip c 43 50 d;");
        due("25 the change is waiting, too", v.waits(0, 3, 0, 0), 10);
        due("25 the least slack", v.waits(0, 3, 0, 1), 0);
        v.delay(1, 0, 1);
        due("25 the least slack NOW", v.waits(0, 3, 0, 1), 0);
        due("25 of two legs", v.waits(0, 2, 0, 1), 1);
    }

    // Promise 26
    private static void hub() {
        DayProfiles x = small();
        due("26 stop", x.hub(0), 1);
        due("26 legs", x.hub(1), 1);
        due("26 what", x.hub(2), -1);
        due("26 what", x.hub(-1), -1);
        x.cancel(1, 0, 1, true);
        x.cancel(3, 0, 1, true);
        due("26 none", x.hub(0), -2);
        due("26 none", x.hub(1), -2);
        DayProfiles y = of("stop a 0;stop b 0;stop c 0;stop d 0;"
            + "trip a 10 20 c;trip c 30 40 b;trip b 50 60 d;");
        due("26 the first of several", y.hub(0), 1);
        due("26 how many", y.hub(1), 2);
        y.cancel(0, 0, 1, true);
        due("26 one is left", y.hub(1), 1);
    }

    // Promise 27
    private static void gap() {
        DayProfiles x = of("stop a 0;stop b 0;stop c 0;trip a 10 20 b;trip a 30 40 b;trip a 80 90 b;trip a 100 110 b;trip b 5 6 a;"
            + "trip a 200 300 c;trip a 200 201 b;trip b 202 203 c;");
        due("27 gap", x.gap(0, 1), 100);
        x.cancel(6, 0, 1, true);
        due("27 gap", x.gap(0, 1), 50);
        due("27 fewer than two", x.gap(1, 0), -2);
        due("27 one and the same", x.gap(1, 1), -1);
        due("27 no such", x.gap(0, 3), -1);
        DayProfiles y = of("stop a 0;stop b 0;stop c 0;trip a 10 20 b 30 40 c;trip b 25 35 c;");
        due("27 two rows", y.profile(0, 2), 2);
        due("27 that leave alike", y.gap(0, 2), -2);
    }

    // Promise 28
    private static void meet() {
        DayProfiles x = small();
        due("28 stop", x.meet(0, 1, 100, 0), 1);
        due("28 minute", x.meet(0, 1, 100, 1), 120);
        due("28 where one is", x.meet(2, 2, 50, 0), 2);
        due("28 at once", x.meet(2, 2, 50, 1), 50);
        due("28 none", x.meet(0, 1, 200, 0), -2);
        due("28 none", x.meet(0, 1, 200, 1), -2);
        due("28 what", x.meet(0, 1, 100, 2), -1);
        due("28 m", x.meet(0, 1, 1440, 0), -1);
        due("28 no such", x.meet(0, 3, 100, 0), -1);
        due("28 the first of several", of("stop a 0;stop b 0;walk a b 5;").meet(0, 1, 0, 0), 0);
    }

    // Promise 29
    private static void via() {
        DayProfiles x = small();
        due("29 by another stop", x.via(0, 1, 2, 110), 220);
        due("29 via", x.via(0, 1, 2, 100), 140);
        due("29 v is s", x.via(0, 0, 2, 100), 140);
        due("29 v is t", x.via(0, 2, 2, 100), 140);
        due("29 all the same", x.via(1, 1, 1, 1439), 1439);
        due("29 there and back", x.via(1, 2, 1, 1439), 1499);
        due("29 no way on", x.via(0, 2, 0, 100), -2);
        due("29 no way there", x.via(0, 1, 0, 200), -2);
        due("29 m", x.via(0, 1, 2, -1), -1);
        due("29 no such", x.via(0, 3, 2, 100), -1);
        due("29 no such", x.via(-1, 1, 2, 100), -1);
        due("29 no such", x.via(0, 1, 3, 100), -1);
    }

    // Promise 30
    private static void stay() {
        DayProfiles x = small();
        due("30 stay", x.stay(0, 1, 100, 140), 6);
        due("30 none back", x.stay(0, 1, 100, 134), -2);
        due("30 no way there", x.stay(0, 1, 200, 140), -2);
        due("30 below 0", x.stay(0, 1, 101, 140), -3);
        due("30 walking", x.stay(1, 2, 100, 190), 30);
        due("30 none at all", x.stay(1, 2, 100, 160), 0);
        due("30 below 0", x.stay(1, 2, 100, 159), -3);
        due("30 z", x.stay(0, 1, 100, 2001), -1);
        due("30 z", x.stay(0, 1, 100, -1), -1);
        due("30 m", x.stay(0, 1, 1440, 0), -1);
        due("30 one and the same", x.stay(1, 1, 0, 0), -1);
        due("30 no such", x.stay(1, 3, 0, 0), -1);
    }

    // Promise 31
    private static void board() {
        DayProfiles x = small();
        due("31 first", x.board(1, 100, false, 0), 1);
        due("31 second", x.board(1, 100, false, 1), 4);
        due("31 third", x.board(1, 100, false, 2), 2);
        due("31 no fourth", x.board(1, 100, false, 3), -2);
        due("31 the greatest i", x.board(1, 100, false, Integer.MAX_VALUE), -2);
        due("31 at m", x.board(1, 125, false, 0), 1);
        due("31 behind it", x.board(1, 126, false, 0), 4);
        due("31 coming", x.board(2, 150, true, 0), 1);
        due("31 coming", x.board(2, 150, true, 1), 3);
        x.delay(3, 0, -1);
        due("31 like ones by numbers", x.board(1, 125, false, 0), 1);
        due("31 like ones by numbers", x.board(1, 125, false, 1), 4);
        x.cancel(0, 1, 1, true);
        due("31 cancelled", x.board(1, 100, false, 0), 4);
        x.delay(1, 0, 240);
        due("31 NOW", x.board(1, 126, false, 0), 2);
        due("31 m", x.board(1, 1440, false, 0), -1);
        due("31 m", x.board(1, -1, false, 0), -1);
        due("31 below 0", x.board(1, 0, false, -1), -1);
        due("31 no such", x.board(3, 0, true, 0), -1);
        DayProfiles y = of("stop a 0;stop b 0;trip a 1438 1439 b;");
        y.delay(0, 0, 100);
        due("31 the day after", y.board(0, 1439, false, 0), 0);
    }

    // Promise 32
    private static void slack() {
        DayProfiles x = small();
        due("32 change", x.slack(0, 2), 5);
        due("32 the same trip", x.slack(0, 1), 0);
        due("32 too late", x.slack(2, 4), -44);
        due("32 no walk", x.slack(3, 0), -1000);
        due("32 no such", x.slack(5, 0), -1000);
        due("32 no such", x.slack(0, -1), -1000);
        x.delay(0, 0, 4);
        due("32 NOW", x.slack(0, 2), 1);
        x.cancel(1, 0, 1, true);
        due("32 on is cancelled", x.slack(0, 2), -1000);
        due("32 off is cancelled", x.slack(2, 4), -1000);
        slackOfOneRide();
    }

    // A ride with itself is asked for as any two are: the document lists no "one and the same" here.
    private static void slackOfOneRide() {
        DayProfiles x = of("stop a 5;stop b 5;stop c 7;walk a b 5;trip a 100 120 b 125 150 c;");
        due("32 one ride, back by a walk", x.slack(0, 0), -25);
        due("32 one ride, no walk", x.slack(1, 1), -1000);
        due("32 no such, twice", x.slack(2, 2), -1000);
        due("32 no such, twice", x.slack(-1, -1), -1000);
        x.delay(0, 0, 30);
        due("32 one ride, late", x.slack(0, 0), -25);
        x.cancel(0, 0, 1, true);
        due("32 one ride, cancelled", x.slack(0, 0), -1000);
        x.undo();
        due("32 one ride, brought back", x.slack(0, 0), -25);
        DayProfiles far = of("stop a 0;stop b 0;walk a b 240;trip a 0 1439 b;");
        due("32 one ride, too late by more than a thousand", far.slack(0, 0), -1679);
    }

    // Promise 33
    private static void fewest() {
        DayProfiles x = small();
        due("33 none", x.fewest(0, 2, 100, 150), 0);
        due("33 one", x.fewest(0, 2, 100, 149), 1);
        due("33 not in time", x.fewest(0, 2, 100, 139), -2);
        due("33 too late to leave", x.fewest(0, 2, 111, 2000), -2);
        due("33 walking", x.fewest(1, 2, 100, 130), 0);
        due("33 z", x.fewest(0, 2, 100, 2001), -1);
        due("33 z", x.fewest(0, 2, 100, -1), -1);
        due("33 m", x.fewest(0, 2, 1440, 0), -1);
        due("33 one and the same", x.fewest(0, 0, 0, 0), -1);
        due("33 no such", x.fewest(0, 3, 0, 0), -1);
    }

    // Promise 34
    private static void quickest() {
        DayProfiles x = small();
        due("34 which", x.quickest(0, 2, 0), 0);
        due("34 minutes", x.quickest(0, 2, 1), 40);
        x.cancel(1, 0, 1, true);
        due("34 the first of several", x.quickest(0, 2, 0), 0);
        due("34 minutes", x.quickest(0, 2, 1), 50);
        x.delay(2, 0, 5);
        x.delay(0, 0, 5);
        due("34 none", x.quickest(2, 1, 0), -2);
        due("34 none", x.quickest(2, 1, 1), -2);
        due("34 what", x.quickest(0, 2, 2), -1);
        due("34 one and the same", x.quickest(2, 2, 0), -1);
        due("34 no such", x.quickest(3, 2, 0), -1);
        due("34 a later one", of("stop a 0;stop b 0;trip a 1 9 b;trip a 5 11 b;trip a 7 13 b;").quickest(0, 1, 0), 1);
    }

    // Promise 35
    private static void next() {
        DayProfiles x = small();
        due("35 next", x.next(0, 2, 100), 160);
        due("35 none", x.next(0, 2, 101), -2);
        due("35 walking alone", x.next(1, 2, 100), -2);
        due("35 no way", x.next(0, 2, 111), -2);
        due("35 m", x.next(0, 2, 1440), -1);
        due("35 one and the same", x.next(0, 0, 0), -1);
        due("35 no such", x.next(3, 0, 0), -1);
        DayProfiles y = of("stop a 0;stop b 0;walk a b 50;trip a 10 60 b;trip a 20 60 b;trip a 30 100 b;trip a 40 99 b;");
        due("35 than the greatest dep", y.next(0, 1, 10), 99);
        due("35 a journey comes as walking does", y.next(0, 1, 10), 99);
        due("35 one that left ahead is none of them", y.next(0, 1, 21), -2);
    }

    // Promise 36
    private static void breaks() {
        DayProfiles x = small();
        due("36 in time still", x.breaks(0, 5, 2), 0);
        due("36 broken", x.breaks(0, 6, 2), 1);
        due("36 the later leg", x.breaks(1, 240, 2), 0);
        due("36 to a", x.breaks(0, 240, 0), 0);
        DayProfiles y = of("stop a 0;stop b 0;stop c 0;stop d 0;walk b c 2;trip a 1 2 b 3 4 c 5 6 d;");
        y.cancel(0, 1, 1, true);
        due("36 one trip twice", y.at(0, 3, 0, 2), 1);
        due("36 both are later", y.breaks(0, 240, 3), 0);
        due("36 it is used once", y.uses(0, 3), 3);
        due("36 d", x.breaks(0, 0, 2), -1);
        due("36 d", x.breaks(0, 241, 2), -1);
        due("36 no such", x.breaks(4, 1, 2), -1);
        due("36 no such", x.breaks(0, 1, 3), -1);
    }

    // Promises 38, 39
    private static void plan() {
        DayProfiles x = small();
        due("38 one", x.plan(0, 1), 1);
        due("38 two", x.plan(2, 2), 2);
        due("38 not of one trip", x.plan(1, 2), -2);
        due("38 off ahead of on", x.plan(1, 0), -2);
        due("38 no such", x.plan(5, 0), -1);
        due("38 no such", x.plan(0, -1), -1);
        for (int i = 3; i <= 6; i++) {
            due("38 more", x.plan(0, 0), i);
        }
        due("38 it has 6", x.plan(0, 0), -3);
        due("38 -2 ahead of -3", x.plan(1, 0), -2);
        due("38 NONE ahead of -2", x.plan(9, 0), -1);
        due("39 had", x.planAnew(), 6);
        due("39 empty", x.planAnew(), 0);
        due("39 count", x.count(6), 0);
    }

    // Promise 40
    private static void planAs() {
        DayProfiles x = small();
        x.plan(4, 4);
        due("40 not so many", x.planAs(0, 2, 3), -2);
        due("40 no such", x.planAs(0, 3, 0), -1);
        due("40 one and the same", x.planAs(0, 0, 0), -1);
        due("40 below 0", x.planAs(0, 2, -1), -1);
        due("40 as it was", x.count(6), 1);
        due("40 two", x.planAs(0, 2, 0), 2);
        due("40 goes", x.checked(0, 2, 100, false, 2), 140);
        due("40 one", x.planAs(0, 2, 2), 1);
        due("40 in place of it", x.count(6), 1);
    }

    private static void checkIs(DayProfiles x, int s, int t, int m, boolean asTold, int... answers) {
        for (int what = 0; what < answers.length; what++) {
            due("41 checked " + s + " " + t + " " + m + " " + asTold + " " + what,
                x.checked(s, t, m, asTold, what), answers[what]);
        }
    }

    // Promise 41
    private static void checked() {
        DayProfiles x = small();
        checkIs(x, 0, 2, 100, false, -3, -3, -3);
        x.plan(0, 0);
        x.plan(2, 2);
        checkIs(x, 0, 2, 100, false, 0, -2, 140);
        checkIs(x, 0, 1, 100, false, 0, -2, 170);
        checkIs(x, 0, 0, 100, false, 3, 2, -2);
        checkIs(x, 0, 2, 101, false, 2, 0, -2);
        checkIs(x, 1, 2, 0, false, 2, 0, -2);
        x.delay(0, 0, 6);
        checkIs(x, 0, 2, 101, false, 2, 1, -2);
        checkIs(x, 0, 2, 101, true, 2, 0, -2);
        x.cancel(0, 0, 1, true);
        checkIs(x, 0, 2, 101, false, 1, 0, -2);
        checkIs(x, 1, 2, 101, false, 1, 0, -2);
        checkIs(x, 0, 2, 100, true, 0, -2, 140);
        due("41 what", x.checked(0, 2, 100, false, 3), -1);
        due("41 what", x.checked(0, 2, 100, false, -1), -1);
        due("41 m", x.checked(0, 2, 1440, false, 0), -1);
        due("41 no such", x.checked(3, 2, 100, false, 0), -1);
        due("41 no such", x.checked(0, -1, 100, false, 0), -1);
        x.planAnew();
        due("41 NONE ahead of -3", x.checked(0, 3, 100, false, 0), -1);
        x.undo();
        x.undo();
        x.plan(0, 1);
        x.cancel(0, 1, 1, true);
        checkIs(x, 0, 2, 100, false, 1, 0, -2);
        x.undo();
        x.plan(0, 0);
        checkIs(x, 0, 2, 100, false, 2, 1, -2);
    }

    // Promise 42
    private static void cause() {
        DayProfiles x = of("stop a 5;stop b 5;stop c 5;stop d 5;"
            + "trip a 100 120 b;trip b 130 140 c;trip c 150 160 d;trip c 160 170 d;");
        due("42 empty", x.cause(0, 3, 100), -2);
        x.plan(0, 0);
        x.plan(1, 1);
        x.plan(2, 2);
        due("42 goes", x.cause(0, 3, 100), -2);
        due("42 not as told, either", x.cause(0, 3, 101), -3);
        x.delay(0, 0, 6);
        due("42 the leg ahead", x.cause(0, 3, 100), 0);
        x.delay(1, 0, 6);
        due("42 the leg right ahead", x.cause(0, 3, 100), 1);
        x.delay(1, 0, 0);
        x.delay(0, 0, 2);
        x.delay(2, 0, -6);
        due("42 the last one that comes at another time", x.cause(0, 3, 100), 0);
        x.delay(0, 0, 0);
        due("42 the leg itself", x.cause(0, 3, 100), 2);
        x.delay(2, 0, 0);
        x.delay(0, 0, -1);
        due("42 the first leg itself", x.cause(0, 3, 100), 0);
        x.cancel(0, 0, 1, true);
        due("42 another reason", x.cause(0, 3, 100), -2);
        x.planAnew();
        x.plan(0, 0);
        x.plan(2, 2);
        x.cancel(0, 0, 1, false);
        x.delay(0, 0, 0);
        due("42 no walk", x.cause(0, 3, 100), -3);
        due("42 m", x.cause(0, 3, 1440), -1);
        due("42 no such", x.cause(0, 4, 0), -1);
        due("42 no such", x.cause(-1, 3, 0), -1);
    }

    // Promises 43, 44
    private static void tooLateAndSpare() {
        DayProfiles x = small();
        due("43 empty", x.tooLate(0, 2, 100), -2);
        due("44 empty", x.spare(0, 2, 100), -2);
        x.plan(0, 0);
        x.plan(2, 2);
        due("43 goes", x.tooLate(0, 2, 100), -2);
        due("43 for the first", x.tooLate(0, 2, 107), 7);
        due("43 no walk", x.tooLate(1, 2, 100), -2);
        due("44 the first", x.spare(0, 2, 97), 3);
        due("44 the second", x.spare(0, 2, 10), 5);
        due("44 breaks", x.spare(0, 2, 101), -2);
        due("44 breaks at the end", x.spare(0, 0, 100), -2);
        x.delay(0, 0, 8);
        due("43 for the second", x.tooLate(0, 2, 100), 3);
        due("44 breaks", x.spare(0, 2, 100), -2);
        x.delay(1, 0, 4);
        due("44 NOW", x.spare(0, 2, 100), 1);
        x.cancel(1, 0, 1, true);
        due("43 another reason", x.tooLate(0, 2, 100), -2);
        due("43 m", x.tooLate(0, 2, -1), -1);
        due("43 no such", x.tooLate(0, 3, 100), -1);
        due("44 m", x.spare(0, 2, 1440), -1);
        due("44 no such", x.spare(3, 2, 100), -1);
    }

    // Promise 45
    private static void count() {
        DayProfiles x = small();
        x.delay(0, 1, 7);
        x.cancel(0, 0, 2, true);
        x.cancel(2, 0, 2, true);
        x.plan(0, 1);
        x.feed(1, 2, 3, 4, 5);
        int[] due = {3, 1, 4, 5, 3, 1, 1, 3, 20};
        for (int what = 0; what <= 8; what++) {
            due("45 count " + what, x.count(what), due[what]);
        }
        due("45 another what", x.count(9), -1);
        due("45 another what", x.count(-1), -1);
    }
}
