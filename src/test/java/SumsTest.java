import java.util.Random;

/** What follows from the document for every desk, whatever it was told: answers that must add up. */
public final class SumsTest {
    private static final int DESKS = 600;
    private static final int NONE = RentReview.NONE;

    private static final Check check = new Check();

    private final Random random;
    private final String of;
    private final RentReview desk;
    private final int lease;
    private final int start;
    private final int term;
    private final int free;

    private SumsTest(long seed) {
        random = new Random(seed);
        desk = Check.deskOf(TextMaker.text(random));
        lease = random.nextInt(desk.now(2));
        of = "seed " + seed + ", LEASE " + lease + ": ";
        start = desk.lease(lease, 0);
        term = desk.lease(lease, 1);
        free = desk.lease(lease, 4);
    }

    public static void main(String[] args) {
        for (long seed = 1; seed <= DESKS && check.wrong() < 20; seed++) {
            SumsTest test = new SumsTest(seed);
            for (int i = 0; i < 40; i++) {
                test.act();
            }
            test.wouldIsWhatPublishMakes();
            switch ((int) (seed % 3)) {
                case 0 -> test.billedAndTruedAreDue();
                case 1 -> test.spreadsAreDueInTheEnd();
                default -> test.reviewsMakeTheRent();
            }
        }
        check.finish();
    }

    private void act() {
        switch (random.nextInt(6)) {
            case 0 -> desk.publish(random.nextInt(60), 900 + random.nextInt(300));
            case 1 -> desk.market(lease, 1 + random.nextInt(8), 1 + random.nextInt(3000));
            case 2, 3 -> desk.turnover(lease, start + random.nextInt(term), random.nextInt(40000));
            case 4 -> desk.pass(1 + random.nextInt(3));
            default -> {
                if (random.nextInt(3) == 0) {
                    desk.breaks(lease);
                }
            }
        }
    }

    private int due(int month, int known) {
        return month < start + free ? 0 : desk.rent(lease, month, known);
    }

    /** END as all of the run is KNOWN. */
    private int end() {
        desk.pass(99);
        desk.pass(99);
        return desk.lease(lease, 6);
    }

    /** What was BILLED, and what was TRUED of it up to a MONTH, is DUE as KNOWN in that MONTH. */
    private void billedAndTruedAreDue() {
        int end = end();
        int known = random.nextBoolean() ? end - 1 : Math.min(239, start + random.nextInt(term + 9));
        int paid = 0;
        int due = 0;
        for (int month = start; month <= known && month < end; month++) {
            paid += desk.billed(lease, month);
            due += due(month, known);
        }
        for (int month = start + 1; month <= known; month++) {
            paid += desk.trued(lease, month);
        }
        check.due(of + "BILLED and TRUED up to " + known, paid, due);
        check.due(of + "TRUED with none ahead", start == 0 ? 0 : desk.trued(lease, start), 0);
    }

    /** The last SPREAD is divided by 1, so nothing is left; ahead() is the sum that it says. */
    private void spreadsAreDueInTheEnd() {
        int end = end();
        check.due(of + "ahead() in the last MONTH", desk.ahead(lease, end - 1), 0);
        int known = start + random.nextInt(end - start);
        int ahead = 0;
        for (int month = start; month <= known; month++) {
            ahead += desk.spread(lease, month) - due(month, known);
        }
        check.due(of + "ahead(" + known + ")", desk.ahead(lease, known), ahead);
        for (int month = end; month < start + term; month++) {
            check.due(of + "SPREAD behind END, " + month, desk.spread(lease, month), 0);
        }
    }

    /** The RENT stays from one REVIEW to the next, and where one is not KNOWN. */
    private void reviewsMakeTheRent() {
        int known = random.nextInt(60);
        int rent = desk.lease(lease, 2);
        int month = start;
        int reviews = Math.min(desk.lease(lease, 7), 40);
        for (int r = 1; r <= reviews; r++) {
            int from = desk.review(lease, r, known, 0);
            check.due(of + "the MONTH of REVIEW " + r, from, start + r * desk.lease(lease, 3));
            check.due(of + "RENT ahead of REVIEW " + r, desk.rent(lease, from - 1, known), rent);
            int held = desk.review(lease, r, known, 2);
            check.due(of + "RENT from REVIEW " + r + " on", desk.rent(lease, from, known), held);
            if (desk.review(lease, r, known, 1) == NONE) {
                check.due(of + "RENT from REVIEW " + r + " on, not KNOWN", held, rent);
            }
            rent = held;
            month = from;
        }
        if (reviews == desk.lease(lease, 7)) {
            check.due(of + "RENT of the last MONTH", desk.rent(lease, start + term - 1, known), rent);
        }
        check.due(of + "RENT of " + month, desk.rent(lease, month, known), rent);
    }

    private void wouldIsWhatPublishMakes() {
        int month = random.nextInt(60);
        int value = 900 + random.nextInt(300);
        int would = desk.would(lease, month, value);
        int now = desk.now(0);
        int before = desk.rent(lease, now, now);
        int told = desk.publish(month, value);
        if (told < 0 || before == NONE) {
            check.due(of + "would() refused", would, before == NONE ? NONE : told);
        } else {
            check.due(of + "would()", would, desk.rent(lease, now, now));
        }
        if (told > 0) {
            desk.undo();
        }
        check.due(of + "RENT as it was", desk.rent(lease, now, now), before);
    }
}
