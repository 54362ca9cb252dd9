/** Terms 1 and promises 1 to 7: texts, their faults, and what is told by them. */
final class BoundariesOfTexts {
    private static final String AB = "stop a 0;stop b 0;";
    private static final int LEAST = Integer.MIN_VALUE;
    private static final int MOST = Integer.MAX_VALUE;

    private final Sentences doc;

    BoundariesOfTexts(Sentences doc) {
        this.doc = doc;
    }

    void run() {
        tokens();
        stopsAndWalks();
        trips();
        order();
        faultsOfTokens();
        tooMuch();
        toldAlready();
        tooEarly();
        newObject();
        feed();
        text();
        textWithFault();
        fault();
        ride();
        walkAndChange();
    }

    private void good(String text) {
        DayProfiles x = new DayProfiles();
        doc.due(text, Calls.text(x, text), text.chars().filter(sign -> sign == ';').count());
        doc.due("fault of " + text, x.fault(0), 0);
        doc.due("place in " + text, x.fault(1), -1);
    }

    private void bad(String text, int fault, int place) {
        DayProfiles x = new DayProfiles();
        doc.due(text, Calls.text(x, text), -1);
        doc.due("fault of " + text, x.fault(0), fault);
        doc.due("place in " + text, x.fault(1), place);
    }

    // ---- Terms 1 ----

    private void tokens() {
        doc.in("Terms 1");
        doc.says("A TEXT: { LINE ';' }");
        good("");
        good(" \n ");
        good("stop a 1;");
        good("stop a 1;stop b 1;");
        bad(";", 1, 0);
        bad("stop a 1;;", 1, 9);
        bad("stop a 1 stop b 1;", 1, 9);
        doc.says("LINE: stop W N | walk W W N | trip W N N W { N N W }");
        good(AB + "walk a b 1;trip a 1 2 b;trip a 1 2 b 3 4 a;trip a 1 2 b 3 4 a 5 6 b;");
        doc.says("W: a word, a .. z, of 1 .. 6 letters");
        good("stop a 0;stop z 0;stop aa 0;stop az 0;stop aaaaaa 0;stop zzzzzz 0;stop abcdef 0;stop fedcba 0;");
        bad("stop aaaaaaa 0;", 1, 5);
        bad("stop a` 0;", 1, 6);
        bad("stop z{ 0;", 1, 6);
        bad("stop A 0;", 1, 5);
        DayProfiles x = doc.read("stop b 1;stop ba 2;stop a 3;stop ab 4;walk ab ba 7;");
        doc.due("words of unlike letters are unlike", x.walk(3, 1), 7);
        doc.says("none of stop, walk, trip");
        for (String word : new String[] {"stop", "walk", "trip"}) {
            bad("stop " + word + " 0;", 1, 5);
            bad(AB + "walk " + word + " b 5;", 1, 23);
            bad(AB + "walk a " + word + " 5;", 1, 25);
            bad(AB + "trip " + word + " 1 2 b;", 1, 23);
            bad(AB + "trip a 1 2 " + word + ";", 1, 29);
            good("stop " + word + "s 0;stop " + word.substring(1) + " 0;");
            bad(word + "s a 0;", 1, 0);
        }
        doc.says("N: digits");
        good("stop a 0;stop b 00000;stop c 000000000060;stop d 19;stop e 20;");
        bad("stop a /;", 1, 7);
        bad("stop a :;", 1, 7);
        bad("stop a -1;", 1, 7);
        bad("stop a +1;", 1, 7);
        doc.due("the highest digit first", doc.read("stop a 19;").change(0), 19);
        doc.says("Blanks 10, 32");
        good("\n stop\na  5 \n;\n\n stop b\n5;\n ");
        good("stop a5;stop b 5;walk a b5;trip a1 2b3 4a;");
        for (char sign : new char[] {0, 9, 11, 12, 13, 31, 33, 127, 160, 255}) {
            bad("stop a" + sign + "5;", 1, 6);
        }
    }

    private void stopsAndWalks() {
        doc.says("stop, at most 10, numbered from 0 on");
        DayProfiles x = doc.read(stops(10));
        doc.due("stops", x.count(0), 10);
        for (int stop = 0; stop < 10; stop++) {
            doc.due("change of " + stop, x.change(stop), stop);
        }
        bad(stops(10) + "stop q 0;", 2, stops(10).length());
        doc.says("its CHANGE 0 .. 60 minutes");
        good("stop a 0;stop b 60;");
        bad("stop a 61;", 2, 7);
        doc.says("walk: minutes 1 .. 240");
        good(AB + "walk a b 1;walk a b 240;");
        bad(AB + "walk a b 0;", 2, 27);
        bad(AB + "walk a b 241;", 2, 27);
        doc.says("between two STOPS told ahead, either way");
        bad("stop a 0;walk a b 5;stop b 0;", 1, 16);
        bad("stop b 0;walk a b 5;stop a 0;", 1, 14);
        x = doc.read("stop a 0;stop b 0;walk b a 5;");
        doc.due("there", x.walk(1, 0), 5);
        doc.due("back", x.walk(0, 1), 5);
        doc.says("at most 12.");
        good(AB + "walk a b 5;".repeat(12));
        bad(AB + "walk a b 5;".repeat(13), 2, AB.length() + 12 * 11);
        doc.due("walks told, like ones too", doc.read(AB + "walk a b 5;".repeat(12)).count(1), 12);
    }

    private static String stops(int n) {
        StringBuilder text = new StringBuilder();
        for (int stop = 0; stop < n; stop++) {
            text.append("stop ").append((char) ('a' + stop)).append(' ').append(stop).append(';');
        }
        return text.toString();
    }

    private void trips() {
        doc.says("trip, at most 20, numbered from 0 on");
        DayProfiles x = doc.read(AB + "trip a 1 2 b;".repeat(20));
        doc.due("trips", x.count(2), 20);
        for (int trip = 0; trip < 20; trip++) {
            doc.due("trip of its ride", x.ride(trip, 0), trip);
        }
        bad(AB + "trip a 1 2 b;".repeat(21), 2, AB.length() + 20 * 13);
        doc.says("from a STOP at a time to another one at a time, then on from there, and so on");
        bad(AB + "trip a 1 2 a;", 3, 29);
        x = doc.read(AB + "stop c 0;trip a 1 2 b 3 4 c 5 6 b 7 8 a;");
        int[] stops = {0, 1, 2, 1, 0};
        for (int ride = 0; ride < 4; ride++) {
            doc.due("from", x.ride(ride, 1), stops[ride]);
            doc.due("to", x.ride(ride, 2), stops[ride + 1]);
        }
        doc.says("RIDES, at most 60 of all TRIPS, numbered from 0 on as they stand");
        x = doc.read(AB + "trip a 1 2 b 2 3 a 3 4 b;".repeat(20));
        doc.due("rides", x.count(3), 60);
        for (int ride = 0; ride < 60; ride++) {
            doc.due("trip of ride " + ride, x.ride(ride, 0), ride / 3);
            doc.due("ride " + ride + " leaves", x.ride(ride, 3), ride % 3 + 1);
        }
        String full = AB + "trip a 1 2 b 2 3 a 3 4 b;".repeat(19) + "trip a 1 2 b 2 3 a 3 4 b";
        good(full + ";");
        bad(full + " 4 5 a;", 2, full.length() + 1);
        good(one(60) + ";");
        bad(one(61) + ";", 2, one(60).length() + 1);
        bad(one(60) + ";trip a 1 2 b;", 2, one(60).length() + 8);
        doc.says("each leaves a STOP at one minute 0 .. 1439, comes to the next one at a later one, 1439 at most");
        good(AB + "trip a 0 1 b;trip a 0 1439 b;trip a 1438 1439 b;");
        bad(AB + "trip a 1440 1441 b;", 2, 25);
        bad(AB + "trip a 1439 1440 b;", 2, 30);
        bad(AB + "trip a 1439 1439 b;", 4, 30);
        doc.says("the next RIDE of the TRIP leaves there, not ahead of that");
        good(AB + "trip a 5 6 b 6 7 a;");
        bad(AB + "trip a 5 6 b 5 7 a;", 4, 31);
        x = doc.read(AB + "stop c 0;trip a 5 6 b 6 7 c 7 8 a;trip b 1 2 a;");
        doc.due("there", x.ride(1, 1), 1);
        doc.due("there", x.ride(2, 1), 2);
        doc.due("another trip leaves where it likes, when it likes", x.ride(3, 1) * 10 + x.ride(3, 3), 11);
    }

    /** A text without its last sign, with one trip of n rides. */
    private static String one(int n) {
        StringBuilder text = new StringBuilder(AB).append("trip a");
        for (int i = 0; i < n; i++) {
            text.append(' ').append(i).append(' ').append(i + 1).append(i % 2 == 0 ? " b" : " a");
        }
        return text.toString();
    }

    private void order() {
        doc.says("FAULTS, the first along the text (of one place the least number), with its place");
        bad("stop a 61;stop a 61;$", 2, 7);
        bad("stop a 60;stop a 61;$", 3, 15);
        bad("stop a 60;stop b 61;$", 2, 17);
        bad("stop a 60;stop b 60;$", 1, 20);
        bad(AB + "trip a 9 8 a;walk a a 0;", 4, 27);
        bad(AB + "trip a 9 1440 a;", 2, 27);
        bad(AB + "walk a a 0;", 3, 25);
        bad(AB + "walk a c 0;", 1, 25);
        bad(one(60) + " 0 1 b;", 2, one(60).length() + 1);
        bad(one(60) + " 1440 1 b;", 2, one(60).length() + 1);
        bad(stops(10) + "stop a 99;", 2, stops(10).length());
        bad(stops(10) + "stop stop;", 2, stops(10).length());
        bad(AB + "walk a b 5;".repeat(12) + "walk q q 0;", 2, AB.length() + 12 * 11);
        bad(AB + "trip a 1 2 b;".repeat(20) + "trip q;", 2, AB.length() + 20 * 13);
    }

    private void faultsOfTokens() {
        doc.says("1 a TOKEN that is none");
        for (char sign = 0; sign < 256; sign++) {
            boolean letter = sign >= 'a' && sign <= 'z';
            boolean skipped = sign == 10 || sign == 32 || sign >= '0' && sign <= '9';
            if (letter) {
                good("stop a" + sign + "b 5;");
            } else {
                bad("stop a" + sign + "b 5;", 1, skipped ? 7 : 6);
            }
        }
        doc.says("(a word of more letters, too: at its first)");
        bad("stop abcdefg 5;", 1, 5);
        bad("stop a 5; stopstop b 5;", 1, 10);
        bad("stop " + "a".repeat(300) + " 5;", 1, 5);
        bad(AB + "walk aaaaaaa b 5;", 1, 23);
        doc.says("or can't stand there");
        cantStand(new String[] {"stop", "c", "5", ";"}, "L", "SW", "N", ";");
        cantStand(new String[] {"walk", "a", "b", "5", ";"}, "L", "S", "S", "N", ";");
        cantStand(new String[] {"trip", "a", "1", "2", "b", "3", "4", "a", ";"},
            "L", "S", "N", "N", "S", "N;", "N", "S", "N;");
        doc.says("(a W that is no STOP, but in stop;");
        good(AB + "stop q 5;");
        bad(AB + "walk q b 5;", 1, 23);
        bad(AB + "walk a q 5;", 1, 25);
        bad(AB + "trip q 1 2 a;", 1, 23);
        bad(AB + "trip a 1 2 q;", 1, 29);
        bad(AB + "trip a 1 2 b 3 4 q;", 1, 35);
        doc.says("the length, if more must come)");
        bad("stop", 1, 4);
        bad("stop \n ", 1, 7);
        bad("stop a", 1, 6);
        bad("stop a 5", 1, 8);
        bad(AB + "trip a 1 2 b 3 4 a  ", 1, 38);
        DayProfiles x = new DayProfiles();
        Calls.feed(x, "stop a 5;stop b 5;");
        doc.due("only so many bytes count", x.text(17), -1);
        doc.due("fault", x.fault(0), 1);
        doc.due("place", x.fault(1), 17);
        Calls.feed(x, "stop a 5;stop b 55;");
        doc.due("a number ends with the text", x.text(17), -1);
        doc.due("place", x.fault(1), 17);
    }

    /** Puts each kind of token at each place of a line; may tells which kinds can stand there. */
    private void cantStand(String[] line, String... may) {
        String[] kinds = {"L", "L", "L", "S", "W", "N", ";", "$", ""};
        String[] signs = {"stop", "walk", "trip", "a", "q", "5", ";", "$", ""};
        StringBuilder ahead = new StringBuilder(AB);
        for (int place = 0; place < line.length; place++) {
            for (int kind = 0; kind < kinds.length; kind++) {
                boolean endsWell = place == 0 && signs[kind].isEmpty();
                if (!endsWell && (signs[kind].isEmpty() || !may[place].contains(kinds[kind]))) {
                    bad(ahead + signs[kind], 1, ahead.length());
                }
            }
            ahead.append(line[place]).append(' ');
        }
    }

    private void tooMuch() {
        doc.says("2 too much (at it): a number beyond what is said");
        bad("stop a 61;", 2, 7);
        bad("stop a 0061;", 2, 7);
        bad("stop a 2147483648;", 2, 7);
        bad("stop a 4294967296;", 2, 7);
        bad("stop a 18446744073709551616;", 2, 7);
        bad("stop a " + "9".repeat(500) + ";", 2, 7);
        bad(AB + "walk a b 4294967301;", 2, 27);
        bad(AB + "walk a b 0;", 2, 27);
        bad(AB + "trip a 4294967297 2 b;", 2, 25);
        bad(AB + "trip a 1 4294967298 b;", 2, 27);
        bad(AB + "trip a 1 2 b 1440 1441 a;", 2, 31);
        bad(AB + "trip a 1 2 b 1439 1440 a;", 2, 36);
        doc.says("an eleventh stop, a 13th walk, a 21st trip (at the word of the LINE)");
        bad(stops(10) + " stop q 0;", 2, stops(10).length() + 1);
        bad(stops(10) + "stop", 2, stops(10).length());
        bad(AB + "walk a b 5;".repeat(12) + "\nwalk a b 5;", 2, AB.length() + 12 * 11 + 1);
        bad(AB + "trip a 1 2 b;".repeat(20) + " trip a 1 2 b;", 2, AB.length() + 20 * 13 + 1);
        good(AB + "trip a 1 2 b;".repeat(20) + "stop c 0;walk a b 5;");
        doc.says("a 61st RIDE (at its first N)");
        bad(one(60) + "  70 71 b;", 2, one(60).length() + 2);
        bad(one(60) + ";trip a  70 71 b;", 2, one(60).length() + 9);
        bad(one(60) + " b;", 1, one(60).length() + 1);
        bad(one(60) + ";trip q 70 71 b;", 1, one(60).length() + 6);
    }

    private void toldAlready() {
        doc.says("3 told already: a STOP (at its W)");
        bad("stop a 5; stop  a 6;", 3, 16);
        bad("stop abcdef 5;stop abcdef 99;", 3, 19);
        good("stop abcde 5;stop abcdef 5;");
        doc.says("the second STOP of a walk, the next one of a RIDE, that is the one ahead (at it)");
        bad(AB + "walk b b 5;", 3, 25);
        bad(AB + "trip a 1 2 a;", 3, 29);
        bad(AB + "trip a 1 2 b 3 4 b;", 3, 35);
        good(AB + "walk a b 5;walk a b 5;walk b a 5;trip a 1 2 b 3 4 a;trip a 1 2 b;");
    }

    private void tooEarly() {
        doc.says("4 a time that is not later than the one ahead in its RIDE");
        good(AB + "trip a 5 6 b;");
        bad(AB + "trip a 5 5 b;", 4, 27);
        bad(AB + "trip a 5 4 b;", 4, 27);
        bad(AB + "trip a 0 0 b;", 4, 27);
        bad(AB + "trip a 5 6 b 8 8 a;", 4, 33);
        doc.says("ahead of when the RIDE ahead comes (at it)");
        good(AB + "trip a 5 9 b 9 10 a;");
        bad(AB + "trip a 5 9 b 8 10 a;", 4, 31);
        bad(AB + "trip a 5 9 b 6 7 a;", 4, 31);
        good(AB + "trip a 5 9 b;trip b 1 2 a;");
    }

    // ---- promises 1 to 4 ----

    private void newObject() {
        doc.in("Promise 1");
        doc.says("No STOPS, no TRIPS; an empty TAPE, PLAN");
        DayProfiles x = new DayProfiles();
        for (int what = 0; what <= 8; what++) {
            doc.due("count " + what, x.count(what), 0);
        }
        doc.due("change", x.change(0), -1);
        doc.due("ride", Calls.thrownBy(x, 0, 0), 1);
        doc.due("delay", x.delay(0, 0, 0), -1);
        doc.due("planAnew", x.planAnew(), 0);
        doc.due("undo", x.undo(), -1);
        doc.due("text of more", x.text(1), -2);
    }

    private void feed() {
        doc.in("Promise 2");
        doc.says("Twenty bytes come behind the TAPE, four of each number, the highest first: how many it has");
        DayProfiles x = new DayProfiles();
        doc.due("20", x.feed(0x73746f70, 0x20616263, 0x20313b73, 0x746f7020, 0x6465663b), 20);
        doc.due("the first fault", x.text(20), -1);
        doc.due("its place", x.fault(1), 19);
        doc.due("20", x.feed(0x73746f70, 0x20616263, 0x20313b73, 0x746f7020, 0x64656620), 20);
        doc.due("40", x.feed(0x32323b77, 0x616c6b20, 0x64656620, 0x61626320, 0x333b8080), 40);
        doc.due("three lines", x.text(38), 3);
        doc.due("change", x.change(1), 22);
        doc.due("walk", x.walk(0, 1), 3);
        doc.due("bytes above 127", x.feed(-1, LEAST, MOST, 0x80ff0020, 0), 20);
        doc.due("are no blanks", x.text(1), -1);
        doc.says("NONE, and none come, if it would have more than 900");
        for (int i = 1; i <= 45; i++) {
            doc.due("feed " + i, x.feed(0x20202020, 0x20202020, 0x20202020, 0x20202020, 0x20202020), 20 * i);
        }
        doc.due("one more", x.feed(0, 0, 0, 0, 0), -1);
        doc.due("none came", x.count(8), 900);
        doc.due("not so many", x.text(901), -2);
        doc.due("900", x.text(900), 0);
        doc.due("room again", x.feed(0, 0, 0, 0, 0), 20);
    }

    private void text() {
        doc.in("Promise 3");
        doc.says("The TAPE's first n bytes (it is empty then) are the TEXT");
        DayProfiles x = new DayProfiles();
        Calls.feed(x, "stop a 5;stop b 6;$$");
        doc.due("two lines", x.text(18), 2);
        doc.due("empty", x.count(8), 0);
        doc.due("not even one byte", x.text(1), -2);
        Calls.feed(x, "stop a 5;stop b 6;$$");
        doc.due("one line", x.text(9), 1);
        doc.due("one stop", x.count(0), 1);
        doc.due("the rest is gone", x.count(8), 0);
        Calls.feed(x, "$".repeat(20));
        doc.due("no byte", x.text(0), 0);
        doc.due("no stop", x.count(0), 0);
        doc.due("empty", x.count(8), 0);
        doc.due("of an empty one", x.text(0), 0);
        doc.says("(all anew, no DELAYS, nothing CANCELLED, no PLAN, nothing to undo): how many LINES");
        x = busy();
        doc.due("lines", Calls.text(x, BUSY), 5);
        int[] due = {2, 1, 2, 3, 0, 0, 0, 0, 0};
        for (int what = 0; what <= 8; what++) {
            doc.due("count " + what, x.count(what), due[what]);
        }
        doc.due("as told", x.ride(0, 5), 10);
        doc.due("not cancelled", x.ride(2, 7), 0);
        doc.due("profile anew", x.at(0, 1, 0, 1), 20);
        doc.due("no plan", x.planAnew(), 0);
        doc.due("nothing to undo", x.undo(), -1);
        x = busy();
        doc.due("no lines", x.text(0), 0);
        for (int what = 0; what <= 8; what++) {
            doc.due("count " + what, x.count(what), 0);
        }
        doc.due("no walk is left", Calls.text(x, AB), 2);
        doc.due("no walk is left", x.walk(0, 1), -2);
        againAndAgain();
        doc.says("-2, and the TAPE stays: there are not so many, n is below 0");
        x = busy();
        Calls.feed(x, AB);
        doc.each("text", -2, x::text, 21, 900, 901, MOST, -1, -20, LEAST);
        doc.due("the tape stays", x.count(8), 20);
        doc.due("all stays", x.count(3), 3);
        doc.due("it can be read still", x.text(20), 2);
    }

    /** What was worked out of a text is of no use for the next one. */
    private void againAndAgain() {
        DayProfiles x = new DayProfiles();
        String ahead = "stop a 5;stop b 5;stop c 5;walk b c 90;trip a 10 20 b;trip b ";
        for (int round = 0; round < 6; round++) {
            int leaves = 24 + round % 3;
            doc.due("lines", Calls.text(x, ahead + leaves + " 40 c 50 60 a;"), 6);
            doc.due("walks, trips, rides", x.count(1) * 100 + x.count(2) * 10 + x.count(3), 123);
            doc.due("ride", x.ride(1, 3), leaves);
            doc.due("earliest", x.earliest(0, 2, 10, 4), leaves == 24 ? 110 : 40);
            doc.due("profile", x.at(0, 2, 0, 1), leaves == 24 ? 110 : 40);
            doc.due("profile to a", x.at(1, 0, 0, 0), leaves);
            doc.due("legs", x.leg(0, 2, 0, 1, 0), leaves == 24 ? -2 : 1);
            doc.due("if the first were a minute earlier", x.ifLate(0, -1, 0, 2, 9), 40);
        }
    }

    private static final String BUSY = "stop a 1;stop b 2;walk a b 99;trip a 10 20 b 30 40 a;trip b 50 60 a;";

    /** One with delays, cancelled rides, a plan, something to undo. */
    private DayProfiles busy() {
        DayProfiles x = doc.read(BUSY);
        x.delay(0, 0, 7);
        x.cancel(1, 0, 1, true);
        x.plan(0, 1);
        x.plan(2, 2);
        return x;
    }

    private void textWithFault() {
        doc.says("NONE with a FAULT, all else stays");
        DayProfiles x = busy();
        String[] wrong = {"stop a 1;stop b 2;walk a b 1;trip a 1 2 b 3 4 a 5 6 a;", "$", stops(10) + "stop k 1;", "stop"};
        for (String text : wrong) {
            doc.due("a fault", Calls.text(x, text), -1);
            int[] due = {2, 1, 2, 3, 1, 2, 2, 2, 0};
            for (int what = 0; what <= 8; what++) {
                doc.due("count " + what, x.count(what), due[what]);
            }
            doc.due("walk", x.walk(0, 1), 99);
            doc.due("change", x.change(1), 2);
            doc.due("delayed", x.ride(1, 5), 37);
            doc.due("cancelled", x.ride(2, 7), 1);
            doc.due("profile", x.at(0, 1, 0, 0), 17);
            doc.due("the plan breaks", x.checked(0, 0, 17, false, 1), 1);
        }
        doc.due("undo", x.undo(), 1);
        doc.due("undo", x.undo(), 0);
        doc.due("as told", x.ride(1, 5), 30);
        doc.due("plan", x.planAnew(), 2);
    }

    private void fault() {
        doc.in("Promise 4");
        doc.says("ahead of any 0 and NONE");
        DayProfiles x = new DayProfiles();
        doc.due("fault", x.fault(0), 0);
        doc.due("place", x.fault(1), -1);
        doc.due("text of too many", x.text(1), -2);
        doc.due("fault still", x.fault(0), 0);
        doc.due("place still", x.fault(1), -1);
        doc.says("NONE for another what;");
        doc.each("fault", -1, x::fault, -1, 2, LEAST, MOST);
        Calls.text(x, "stop a 61;");
        doc.each("fault", -1, x::fault, -1, 2, LEAST, MOST);
        doc.says("Of the latest text() that was not -2");
        doc.due("text below 0", x.text(-1), -2);
        doc.due("fault", x.fault(0), 2);
        doc.due("place", x.fault(1), 7);
        doc.due("another fault", Calls.text(x, "sto"), -1);
        doc.due("fault", x.fault(0), 1);
        doc.due("place", x.fault(1), 0);
        doc.says("what 0: its FAULT (0), 1: its place (NONE without)");
        doc.due("a good one", Calls.text(x, "stop a 60;"), 1);
        doc.due("fault", x.fault(0), 0);
        doc.due("place", x.fault(1), -1);
        doc.due("a bad one", Calls.text(x, "stop a 60; stop a 60;"), -1);
        doc.due("fault", x.fault(0), 3);
        doc.due("place", x.fault(1), 16);
        doc.due("the empty one", x.text(0), 0);
        doc.due("fault", x.fault(0), 0);
        doc.due("place", x.fault(1), -1);
    }

    // ---- promises 5 to 7 ----

    private void ride() {
        doc.in("Promise 5");
        DayProfiles x = busy();
        doc.says("Of a RIDE, what 0 its TRIP, 1 from which STOP, 2 to which, 3 when it leaves as told, 4 when it comes as told,"
            + " 5, 6 likewise NOW, 7 whether it is CANCELLED (1, 0), 8 the RIDE of its TRIP behind it (-2: none)");
        int[][] due = {{0, 0, 1, 10, 20, 17, 27, 0, 1}, {0, 1, 0, 30, 40, 37, 47, 0, -2}, {1, 1, 0, 50, 60, 50, 60, 1, -2}};
        for (int ride = 0; ride < 3; ride++) {
            for (int what = 0; what <= 8; what++) {
                doc.due("ride " + ride + " " + what, x.ride(ride, what), due[ride][what]);
            }
        }
        x.cancel(0, 0, 2, true);
        doc.due("cancelled ones have one behind them, too", x.ride(0, 8), 1);
        doc.says("IndexOutOfBoundsException: no such RIDE");
        doc.each("ride", 1, i -> Calls.thrownBy(x, i, 0), -1, 3, 60, LEAST, MOST);
        doc.says("NoSuchElementException: no such what");
        doc.each("ride", 2, what -> Calls.thrownBy(x, 2, what), -1, 9, LEAST, MOST);
        doc.in("Terms 4");
        doc.says("IndexOutOfBoundsException ahead of NoSuchElementException");
        doc.due("neither", Calls.thrownBy(x, 3, 9), 1);
        doc.due("neither", Calls.thrownBy(x, -1, -1), 1);
        doc.due("neither, on a new one", Calls.thrownBy(new DayProfiles(), 0, 9), 1);
    }

    private void walkAndChange() {
        DayProfiles x = doc.read("stop a 0;stop b 60;stop c 7;stop d 8;walk a b 9;walk a b 5;walk b c 5;walk a c 11;");
        doc.in("Promise 6");
        doc.says("The WALK between two STOPS");
        doc.due("the least told", x.walk(0, 1), 5);
        doc.due("by another stop", x.walk(2, 0), 10);
        doc.due("one's own", x.walk(3, 3), 0);
        doc.says("-2: there is none");
        doc.due("none", x.walk(0, 3), -2);
        doc.due("none", x.walk(3, 2), -2);
        doc.says("NONE: no such ones");
        doc.each("walk", -1, a -> x.walk(a, 0), -1, 4, 10, LEAST, MOST);
        doc.each("walk", -1, b -> x.walk(3, b), -1, 4, 10, LEAST, MOST);
        doc.each("walk", -1, a -> x.walk(a, a), -1, 4, 10, LEAST, MOST);
        doc.in("Promise 7");
        doc.says("CHANGE of a STOP");
        doc.due("the least", x.change(0), 0);
        doc.due("the greatest", x.change(1), 60);
        doc.due("the last", x.change(3), 8);
        doc.says("NONE: no such one");
        doc.each("change", -1, x::change, -1, 4, 10, LEAST, MOST);
    }
}
