/** What the document says ahead of its face: each thing that the planner is said to do, done once. */
final class WhatItIs {
    private static final String SMALL = BoundariesOfProfiles.SMALL;

    private final Sentences doc;

    WhatItIs(Sentences doc) {
        this.doc = doc;
    }

    void run() {
        doc.in("What it is");
        whatIsTold();
        departuresAndArrivals();
        delays();
        plans();
        further();
        calls();
    }

    private void whatIsTold() {
        doc.says("A planner of departures: trips of a day from stop to stop, minutes for a change at each stop,"
            + " walks between stops that hang together;");
        DayProfiles x = doc.read("stop a 5;stop b 6;stop c 7;walk a b 8;walk b c 9;trip a 1 2 c;");
        doc.due("from", x.ride(0, 1), 0);
        doc.due("to", x.ride(0, 2), 2);
        doc.due("minutes for a change", x.change(1), 6);
        doc.due("walks hang together", x.walk(0, 2), 17);
    }

    private void departuresAndArrivals() {
        DayProfiles x = doc.read(SMALL);
        doc.says("for each two stops all departures and arrivals that nothing beats, by how often one changes;");
        doc.due("all", x.profile(0, 2), 3);
        doc.due("departure", x.at(0, 2, 0, 0), 100);
        doc.due("arrival", x.at(0, 2, 0, 1), 140);
        doc.due("changes", x.at(0, 2, 0, 2), 1);
        doc.due("by no change", x.profileBy(0, 2, 0), 2);
        doc.says("how such a ride unfolds, trip by trip;");
        doc.due("the first trip", x.ride(x.leg(0, 2, 0, 0, 0), 0), 0);
        doc.due("the second trip", x.ride(x.leg(0, 2, 0, 1, 0), 0), 1);
        doc.says("the earliest arrival, the latest departure;");
        doc.due("earliest", x.earliest(0, 2, 100, 4), 140);
        doc.due("latest", x.latest(0, 2, 150), 100);
    }

    private void delays() {
        DayProfiles x = doc.read(SMALL);
        doc.says("delays that are told from a stop on, trips cancelled, brought back;");
        doc.due("from the second stop on", x.delay(0, 1, 4), 1);
        doc.due("as told", x.ride(0, 6), 120);
        doc.due("later", x.ride(1, 5), 129);
        doc.due("cancelled", x.cancel(1, 0, 1, true), 1);
        doc.due("without it, by a walk", x.earliest(0, 2, 100, 4), 150);
        doc.due("brought back", x.cancel(1, 0, 1, false), 1);
        doc.due("with it", x.earliest(0, 2, 100, 4), 140);
        doc.says("how late a trip may be till a ride breaks, what is missed then;");
        doc.due("late", x.late(0, 0, 2, 100), 6);
        doc.due("not broken", x.breaks(0, 5, 2), 0);
        doc.due("broken", x.breaks(0, 6, 2), 1);
        doc.due("the change is missed", x.ifLate(0, 6, 0, 2, 100), 156);
    }

    private void plans() {
        DayProfiles x = doc.read(SMALL);
        doc.says("plans of rides checked, and why they break, down to what caused it;");
        doc.due("a plan", x.planAs(0, 2, 0), 2);
        doc.due("it goes", x.checked(0, 2, 100, false, 0), 0);
        x.delay(0, 0, 6);
        doc.due("why", x.checked(0, 2, 100, false, 0), 2);
        doc.due("where", x.checked(0, 2, 100, false, 1), 1);
        doc.due("what caused it", x.cause(0, 2, 100), 0);
    }

    private void further() {
        DayProfiles x = doc.read(SMALL);
        doc.says("the mean way over some hours, how far one comes, which trip is missed most, what a change less would cost.");
        doc.due("mean", x.mean(0, 2, 40, 101), 70);
        doc.due("how far", x.reached(0, 100, 39), 3);
        doc.due("missed most", x.missed(0, 2, 100, 0), 0);
        doc.due("a change less", x.costOfFewer(0, 2, 100, 1), 10);
    }

    private void calls() {
        doc.says("An object is used for at most 512 calls after it has been made; what later calls answer is free.");
        DayProfiles x = new DayProfiles();
        for (int call = 1; call <= 510; call += 2) {
            x.feed(0x73746f70, 0x20612035, 0x3b202020, 0x20202020, 0x20202020);
            doc.due("text at call " + (call + 1), x.text(20), 1);
        }
        doc.due("call 511", x.change(0), 5);
        doc.due("call 512", x.count(0), 1);
    }
}
