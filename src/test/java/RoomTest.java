import com.sun.management.ThreadMXBean;
import java.lang.management.ManagementFactory;

/** All calls of a run live in one room: a new object is small, and no call makes anything beside it. */
public final class RoomTest {
    private static final Calls calls = new Calls();
    private static final ThreadMXBean THREADS = (ThreadMXBean) ManagementFactory.getThreadMXBean();
    /** 14,000 elements of four bytes, and some hundred arrays and objects. */
    private static final long MOST_OF_A_NEW_ONE = 100_000;

    public static void main(String[] args) {
        DayProfiles x = new DayProfiles();
        ask(x);
        long before = made();
        DayProfiles y = new DayProfiles();
        long ofANewOne = made() - before;
        calls.due("bytes of a new one: " + ofANewOne, ofANewOne <= MOST_OF_A_NEW_ONE ? 1 : 0, 1);
        Calls.text(y, BoundariesOfProfiles.SMALL);
        long sum = ask(y);
        before = made();
        long again = ask(y);
        long ofCalls = made() - before;
        calls.due("the same answers", again, sum);
        calls.due("bytes of all calls", ofCalls, 0);
        calls.end();
    }

    private static long made() {
        return THREADS.getCurrentThreadAllocatedBytes();
    }

    /** Each call once at least; at the end all is as it was. */
    private static long ask(DayProfiles x) {
        long sum = x.fault(0) + x.walk(1, 2) + x.change(0) + x.count(3) + x.board(1, 0, false, 1) + x.slack(0, 2);
        if (x.count(3) > 0) {
            sum += x.ride(1, 5);
        }
        for (int round = 0; round < 2; round++) {
            sum += x.profile(0, 2) + x.at(0, 2, 0, 1) + x.leg(0, 2, 0, 1, 0) + x.profileBy(0, 2, 1) + x.atBy(0, 2, 0, 0, 1);
            sum += x.waits(0, 2, 0, 0) + x.travels(0, 2, 0, 1) + x.quickest(0, 2, 1) + x.gap(0, 2) + x.uses(0, 2) + x.hub(0);
            sum += x.earliest(0, 2, 100, 4) + x.latest(0, 2, 160) + x.reached(0, 100, 40) + x.next(0, 2, 100);
            sum += x.fewest(0, 2, 100, 160) + x.costOfFewer(0, 2, 100, 1) + x.mean(0, 2, 0, 1440) + x.via(0, 1, 2, 100);
            sum += x.meet(0, 1, 100, 1) + x.stay(0, 1, 100, 140) + x.late(0, 0, 2, 100) + x.ifLate(0, 9, 0, 2, 100);
            sum += x.missed(0, 2, 100, 1) + x.breaks(0, 6, 2) + x.planAs(0, 2, 0) + x.plan(0, 0) + x.spare(0, 2, 100);
            sum += x.checked(0, 2, 100, false, 0) + x.cause(0, 2, 100) + x.tooLate(0, 2, 100) + x.planAnew();
            sum += x.delay(0, 0, 9) + x.cancel(1, 0, 1, true);
        }
        while (x.count(7) > 0) {
            sum += x.undo();
        }
        return sum;
    }
}
