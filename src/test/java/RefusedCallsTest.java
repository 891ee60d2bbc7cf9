import java.util.ArrayList;
import java.util.List;

/**
 * 'A refused call, one that throws changes nothing': of two desks with the same calls one has a refused
 * call more. Whatever is asked of them then, whatever is undone, whatever the tape is read as, they
 * answer alike. The same for calls that only ask.
 */
public final class RefusedCallsTest {
    private static final Check check = new Check();
    private static final int NONE = RentReview.NONE;
    private static final int REFUSED = Check.REFUSED;
    private static final int MIN = Integer.MIN_VALUE;
    private static final int MAX = Integer.MAX_VALUE;
    /** More calls than that are not promised to be answered. */
    private static final int MOST_CALLS = 512;

    private static final String SIX = "rate 77;index 0 100 0;index 9 140 5;index 30 90 20;"
        + "lease 2 30 1000 4 3;break 20;lease 2 30 1000 4 3;by index 2;collar 20 30;break 20;"
        + "lease 2 30 1000 4 3;by market;overall 50 60;break 20;lease 2 30 1000 2 3;by turnover 500;upward;break 20;"
        + "lease 2 30 1000 4 3;by step 15;break 20;lease 2 30 1000 4 3;by market;";

    private interface Call {
        long on(RentReview x);
    }

    private record Refused(String name, Call call, long answer) { }

    /** A state to be in: a desk that is made anew each time it is asked for. */
    private interface Maker {
        RentReview make();
    }

    public static void main(String[] args) {
        for (Refused refused : refusedAnywhere()) {
            changesNothing("a new object", RentReview::new, refused);
            changesNothing("a new TEXT", () -> Check.deskOf(SIX), refused);
            changesNothing("on the way", RefusedCallsTest::onTheWay, refused);
            changesNothing("all full", RefusedCallsTest::allFull, refused);
        }
        for (Refused refused : refusedOnTheWay()) {
            changesNothing("on the way", RefusedCallsTest::onTheWay, refused);
        }
        for (Refused refused : refusedWhenFull()) {
            changesNothing("all full", RefusedCallsTest::allFull, refused);
        }
        for (Refused asked : asks()) {
            changesNothing("on the way", RefusedCallsTest::onTheWay, asked);
        }
        allOfThemBehindEachOther();
        faultsLeaveAllButTheTape();
        check.finish();
    }

    // ---- states ----

    private static RentReview onTheWay() {
        RentReview x = Check.deskOf(SIX);
        x.pass(6);
        x.publish(4, 120);
        x.market(2, 1, 1040);
        x.turnover(3, 2, 3000);
        x.turnover(3, 3, 2000);
        x.pass(6);
        x.market(2, 3, 900);
        x.breaks(2);
        Check.feed(x, "rate 5;lease 0 3 9 1 0;break 2;");
        return x;
    }

    /** No byte, no VALUE, no act, no MONTH more. */
    private static RentReview allFull() {
        RentReview x = Check.deskOf(SIX);
        for (int month = 100; x.now(3) < 40; month++) {
            x.publish(month, 200 + month);
        }
        x.breaks(0);
        x.market(2, 1, 1040);
        x.pass(99);
        x.turnover(3, 2, 3000);
        x.turnover(3, 3, 2000);
        x.market(5, 7, 4000);
        x.pass(99);
        x.pass(41);
        Check.feed(x, "rate 5;lease 0 3 9 1 0;break 2;" + " ".repeat(609));
        return x;
    }

    // ---- refused calls ----

    private static void add(List<Refused> all, String name, Call call, long answer) {
        all.add(new Refused(name, call, answer));
    }

    /** Refused in every state. */
    private static List<Refused> refusedAnywhere() {
        List<Refused> all = new ArrayList<>();
        for (int n : new int[] {MIN, -1, 641, MAX}) {
            add(all, "end(" + n + ")", x -> x.end(n) ? 1 : 0, 0);
        }
        for (int n : new int[] {MIN, -1, 6, MAX}) {
            add(all, "now(" + n + ")", x -> x.now(n), NONE);
            add(all, "lease(" + n + ", 0)", x -> Check.lease(x, n, 0), Check.THROWN);
            add(all, "rent(" + n + ", 2, 0)", x -> x.rent(n, 2, 0), NONE);
            add(all, "review(" + n + ", 1, 0, 0)", x -> x.review(n, 1, 0, 0), REFUSED);
            add(all, "billed(" + n + ", 2)", x -> x.billed(n, 2), NONE);
            add(all, "trued(" + n + ", 2)", x -> x.trued(n, 2), REFUSED);
            add(all, "interest(" + n + ", 2)", x -> x.interest(n, 2), REFUSED);
            add(all, "spread(" + n + ", 2)", x -> x.spread(n, 2), REFUSED);
            add(all, "ahead(" + n + ", 2)", x -> x.ahead(n, 2), REFUSED);
            add(all, "would(" + n + ", 50, 1)", x -> x.would(n, 50, 1), NONE);
            add(all, "market(" + n + ", 1, 1)", x -> x.market(n, 1, 1), NONE);
            add(all, "turnover(" + n + ", 2, 1)", x -> x.turnover(n, 2, 1) ? 1 : 0, 0);
            add(all, "breaks(" + n + ")", x -> x.breaks(n), NONE);
        }
        for (int n : new int[] {MIN, -1, 240, MAX}) {
            add(all, "index(" + n + ", 0)", x -> x.index(n, 0), NONE);
            add(all, "index(0, " + n + ")", x -> x.index(0, n), NONE);
            add(all, "publish(" + n + ", 1)", x -> x.publish(n, 1), NONE);
            add(all, "market(2, " + n + ", 1)", x -> x.market(2, n, 1), NONE);
            add(all, "turnover(3, " + n + ", 1)", x -> x.turnover(3, n, 1) ? 1 : 0, 0);
            add(all, "spread(0, " + n + ")", x -> x.spread(0, n), REFUSED);
        }
        for (int n : new int[] {MIN, -1, 0, 10000, MAX}) {
            add(all, "publish(50, " + n + ")", x -> x.publish(50, n), NONE);
            add(all, "would(0, 50, " + n + ")", x -> x.would(0, 50, n), NONE);
        }
        for (int n : new int[] {MIN, -1, 0, 100000, MAX}) {
            add(all, "market(2, 2, " + n + ")", x -> x.market(2, 2, n), NONE);
        }
        for (int n : new int[] {MIN, -1, 1000000, MAX}) {
            add(all, "turnover(3, 8, " + n + ")", x -> x.turnover(3, 8, n) ? 1 : 0, 0);
        }
        for (int n : new int[] {MIN, -1, 0, 100, MAX}) {
            add(all, "pass(" + n + ")", x -> x.pass(n), NONE);
        }
        for (int n : new int[] {MIN, -1, 8, MAX}) {
            add(all, "lease(0, " + n + ")", x -> Check.lease(x, 0, n), Check.THROWN);
            add(all, "lease(5, " + n + ")", x -> Check.lease(x, 5, n), Check.THROWN);
        }
        return all;
    }

    /** NOW is 12, the tape has 31 bytes, lease 2 is broken. */
    private static List<Refused> refusedOnTheWay() {
        List<Refused> all = new ArrayList<>();
        add(all, "end(32)", x -> x.end(32) ? 1 : 0, 0);
        for (int month : new int[] {0, 4, 9, 30}) {
            add(all, "publish() of one that has one", x -> x.publish(month, 7), NONE);
            add(all, "would() of one that has one", x -> x.would(1, month, 7), NONE);
        }
        add(all, "market() of one that was told", x -> x.market(2, 1, 7), NONE);
        add(all, "market() of one that was told", x -> x.market(2, 3, 7), NONE);
        add(all, "market() of r 0", x -> x.market(2, 0, 7), NONE);
        add(all, "market() of one REVIEW more", x -> x.market(2, 8, 7), NONE);
        add(all, "turnover() of one that was told", x -> x.turnover(3, 2, 7) ? 1 : 0, 0);
        add(all, "turnover() ahead of START", x -> x.turnover(3, 1, 7) ? 1 : 0, 0);
        add(all, "turnover() behind TERM", x -> x.turnover(3, 32, 7) ? 1 : 0, 0);
        for (int lease = 0; lease < 6; lease++) {
            int of = lease;
            if (lease != 2 && lease != 5) {
                add(all, "market() of another kind", x -> x.market(of, 2, 7), NONE);
            }
            if (lease != 3) {
                add(all, "turnover() of another kind", x -> x.turnover(of, 5, 7) ? 1 : 0, 0);
            }
        }
        add(all, "breaks() of one that was taken", x -> x.breaks(2), NONE);
        add(all, "breaks() of one that has none", x -> x.breaks(5), NONE);
        add(all, "rent() ahead of START", x -> x.rent(1, 1, 0), NONE);
        add(all, "rent() KNOWN in 240", x -> x.rent(1, 2, 240), NONE);
        add(all, "review() of another what", x -> x.review(1, 1, 0, 5), REFUSED);
        add(all, "review() of one REVIEW more", x -> x.review(1, 8, 0, 0), REFUSED);
        add(all, "billed() of END", x -> x.billed(2, 20), NONE);
        add(all, "trued() of 0", x -> x.trued(1, 0), REFUSED);
        add(all, "interest() of 240", x -> x.interest(1, 240), REFUSED);
        add(all, "ahead() behind TERM", x -> x.ahead(1, 32), REFUSED);
        return all;
    }

    private static List<Refused> refusedWhenFull() {
        List<Refused> all = new ArrayList<>();
        add(all, "feed() of a full tape", x -> x.feed(1, 2, 3, 4, 5), NONE);
        add(all, "feed() of a full tape", x -> x.feed(MIN, MAX, -1, 0, 0x20202020), NONE);
        add(all, "publish() when there are 40", x -> x.publish(50, 7), -2);
        add(all, "publish() of one that has one", x -> x.publish(100, 7), NONE);
        add(all, "would() behind TERM", x -> x.would(1, 50, 7), NONE);
        add(all, "pass() from 239 on", x -> x.pass(1), NONE);
        add(all, "pass() from 239 on", x -> x.pass(99), NONE);
        add(all, "breaks() of one that was taken", x -> x.breaks(0), NONE);
        add(all, "breaks() too late", x -> x.breaks(1), NONE);
        return all;
    }

    /** Calls that ask alone change nothing either; their answers are looked at elsewhere. */
    private static List<Refused> asks() {
        List<Refused> all = new ArrayList<>();
        RentReview same = onTheWay();
        Call[] calls = {x -> x.fault(), x -> x.now(3), x -> x.lease(2, 6), x -> x.index(7, 12), x -> x.rent(1, 25, 12),
            x -> x.review(2, 3, 12, 2), x -> x.billed(1, 9), x -> x.trued(2, 12), x -> x.interest(2, 12),
            x -> x.spread(2, 14), x -> x.ahead(2, 14), x -> x.would(1, 8, 160), x -> x.would(1, 239, 9999)};
        for (Call call : calls) {
            add(all, "a call that asks", call, call.on(same));
        }
        return all;
    }

    // ---- two desks ----

    private static void changesNothing(String state, Maker maker, Refused refused) {
        String name = refused.name + " (" + state + ")";
        RentReview other = maker.make();
        check.due(name, refused.call.on(other), refused.answer);
        alike(name + " changes what is asked", asked(maker.make()), asked(other));
        RentReview undone = maker.make();
        refused.call.on(undone);
        alike(name + " changes what is undone", undone(maker.make()), undone(undone));
        RentReview read = maker.make();
        refused.call.on(read);
        alike(name + " changes the tape", read(maker.make()), read(read));
    }

    private static void alike(String name, List<Long> want, List<Long> got) {
        check.due(name + ": how many answers", got.size(), want.size());
        for (int i = 0; i < want.size() && i < got.size(); i++) {
            check.due(name + ": answer " + i, got.get(i), want.get(i));
        }
    }

    /** Not lengthened beyond what a desk is promised to answer. */
    private static List<Long> asked(RentReview x) {
        List<Long> all = new ArrayList<>();
        state(x, all);
        for (int lease = 0; lease < 6; lease++) {
            for (int what = 0; what < 8; what++) {
                all.add(Check.lease(x, lease, what));
            }
            for (int month : new int[] {2, 12, 31}) {
                all.add((long) x.rent(lease, month, 12));
                all.add((long) x.rent(lease, month, 239));
                all.add((long) x.billed(lease, month));
                all.add((long) x.spread(lease, month));
                all.add((long) x.ahead(lease, month));
            }
            for (int month : new int[] {6, 12, 239}) {
                all.add((long) x.trued(lease, month));
                all.add((long) x.interest(lease, month));
            }
            for (int what = 1; what < 5; what++) {
                all.add((long) x.review(lease, 3, 12, what));
            }
        }
        for (int month : new int[] {0, 4, 8, 50, 100, 121, 239}) {
            all.add((long) x.index(month, 6));
            all.add((long) x.index(month, 239));
        }
        all.add((long) x.would(1, 50, 7));
        check.due("more calls than are promised", all.size() > MOST_CALLS - 200, false);
        return all;
    }

    private static void state(RentReview x, List<Long> all) {
        all.add((long) x.fault());
        for (int what = 0; what < 6; what++) {
            all.add((long) x.now(what));
        }
    }

    private static List<Long> undone(RentReview x) {
        List<Long> all = new ArrayList<>();
        long more = 0;
        for (int i = 0; i <= 11 && more != NONE; i++) {
            more = x.undo();
            all.add(more);
            state(x, all);
            for (int lease = 0; lease < 6; lease++) {
                all.add((long) x.spread(lease, 14));
                all.add((long) x.rent(lease, 16, 239));
            }
        }
        all.add((long) x.market(2, 1, 70));
        all.add((long) x.publish(50, 70));
        all.add((long) x.breaks(4));
        return all;
    }

    private static List<Long> read(RentReview x) {
        List<Long> all = new ArrayList<>();
        all.add(x.end(600) ? 1L : 0L);
        all.add((long) x.text());
        state(x, all);
        for (int what = 0; what < 8; what++) {
            all.add(Check.lease(x, 0, what));
        }
        all.add((long) x.breaks(0));
        return all;
    }

    /** Not one by one, but all of them on one desk (in turns of as many as may be). */
    private static void allOfThemBehindEachOther() {
        List<Refused> all = new ArrayList<>(refusedAnywhere());
        all.addAll(refusedOnTheWay());
        int most = 150;
        for (int from = 0; from < all.size(); from += most) {
            List<Refused> some = all.subList(from, Math.min(all.size(), from + most));
            RentReview x = onTheWay();
            for (Refused refused : some) {
                check.due(refused.name + " behind others", refused.call.on(x), refused.answer);
            }
            alike("refused calls behind each other", asked(onTheWay()), asked(x));
            RentReview y = onTheWay();
            for (Refused refused : some) {
                refused.call.on(y);
            }
            alike("refused calls behind each other, undone", undone(onTheWay()), undone(y));
        }
    }

    private static void faultsLeaveAllButTheTape() {
        String[] faults = {"", "rate 501;", "rate 1;index 6 60 0;index 6 60 0;", "rate 1;lease 0 9 9 1 0;upward;upward;",
            "rate 1;" + "lease 0 9 9 1 0;".repeat(7), "rate 1;lease 0 9 9 1 0;" + " ".repeat(600)};
        for (String fault : faults) {
            for (Maker maker : new Maker[] {RefusedCallsTest::onTheWay, RefusedCallsTest::allFull}) {
                RentReview want = maker.make();
                RentReview got = maker.make();
                want.end(0);
                got.end(0);
                check.due("a FAULT", Check.tell(got, fault) < 0, true);
                List<Long> wanted = asked(want);
                List<Long> found = asked(got);
                // What fault() answers is the FAULT's own.
                wanted.set(0, 0L);
                found.set(0, 0L);
                alike("a FAULT changes more than the tape", wanted, found);
            }
        }
    }
}
