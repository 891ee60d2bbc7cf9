import com.sun.management.ThreadMXBean;
import java.lang.management.ManagementFactory;

/** All calls of a run live in one room: only the constructor may take a part of it. */
public final class RoomTest {
    private static final int DESKS = 200;
    /** In bytes: an int has four, and 7.3 million of them are there for 512 new objects at most. */
    private static final long MOST_OF_A_DESK = 50000;

    public static void main(String[] args) {
        ThreadMXBean threads = (ThreadMXBean) ManagementFactory.getThreadMXBean();
        Check check = new Check();
        RentReview[] desks = new RentReview[DESKS];
        new RentReview();
        long before = threads.getCurrentThreadAllocatedBytes();
        for (int i = 0; i < DESKS; i++) {
            desks[i] = new RentReview();
        }
        long each = (threads.getCurrentThreadAllocatedBytes() - before) / DESKS;
        check.due("a new object of " + each + " bytes is too large", each > MOST_OF_A_DESK, false);

        String whole = "rate 5;index 0 100 0;index 9 200 3;lease 0 60 500 1 0;by index 0;overall 1 2;"
            + "lease 0 20 9 2 0;by market;break 7;lease 0 120 9 60 0;by turnover 9;";
        for (int i = 0; i < DESKS; i++) {
            Check.feed(desks[i], whole);
        }
        callAll(desks[0]);
        before = threads.getCurrentThreadAllocatedBytes();
        for (int i = 1; i < DESKS; i++) {
            callAll(desks[i]);
        }
        long made = threads.getCurrentThreadAllocatedBytes() - before;
        check.due("calls that made " + made + " bytes are too dear", made / (DESKS - 1) > 100, false);
        check.finish();
    }

    private static void callAll(RentReview x) {
        x.text();
        x.fault();
        x.now(3);
        x.lease(0, 6);
        x.index(5, 5);
        x.rent(0, 50, 5);
        x.review(0, 50, 5, 2);
        x.billed(0, 50);
        x.trued(0, 50);
        x.interest(0, 50);
        x.spread(0, 50);
        x.ahead(0, 50);
        x.would(0, 30, 99);
        x.publish(30, 99);
        x.market(1, 2, 99);
        x.turnover(2, 7, 99);
        x.breaks(1);
        for (int i = 0; i < 12; i++) {
            x.pass(2);
        }
        x.undo();
        x.feed(1, 2, 3, 4, 5);
        x.end(3);
        x.text();
    }
}
