import java.util.NoSuchElementException;
import java.util.Random;

/** Long runs of calls, drawn from fixed seeds, whose answers PlainDesk gives too. */
public final class RandomRunsTest {
    private static final int RUNS = 1500;
    private static final int CALLS = 512;
    private static final int[] EDGES = {-1, 0, 1, 2, 5, 6, 7, 9, 10, 12, 39, 40, 60, 99, 100, 118, 119,
        120, 121, 238, 239, 240, 241, 9999, 10000, 99999, 100000, 999999, 1000000,
        Integer.MAX_VALUE, Integer.MIN_VALUE, Integer.MIN_VALUE + 1, Integer.MAX_VALUE - 1};

    private final Check check;
    private final Random random;
    private final long seed;
    private final RentReview desk = new RentReview();
    private final PlainDesk plain = new PlainDesk();
    private int calls;

    private RandomRunsTest(Check check, long seed) {
        this.check = check;
        this.seed = seed;
        this.random = new Random(seed);
    }

    public static void main(String[] args) {
        int runs = args.length > 0 ? Integer.parseInt(args[0]) : RUNS;
        long first = args.length > 1 ? Long.parseLong(args[1]) : 1;
        Check check = new Check();
        for (long seed = first; seed < first + runs && check.wrong() < 20; seed++) {
            new RandomRunsTest(check, seed).run();
        }
        check.finish();
    }

    private void run() {
        while (calls < CALLS) {
            if (random.nextInt(4) == 0) {
                tell(broken(TextMaker.text(random)));
            } else {
                tell(TextMaker.text(random));
            }
            int until = calls + 20 + random.nextInt(200);
            while (calls < until && calls < CALLS) {
                call();
            }
        }
    }

    private void same(String call, long got, long want) {
        calls++;
        check.due("seed " + seed + ", call " + calls + ": " + call, got, want);
    }

    private void same(String call, boolean got, boolean want) {
        same(call, got ? 1 : 0, want ? 1 : 0);
    }

    private void tell(String text) {
        byte[] bytes = Check.bytes(text);
        for (int from = 0; from < bytes.length; from += 20) {
            int[] n = Check.numbers(bytes, from);
            same("feed", desk.feed(n[0], n[1], n[2], n[3], n[4]), plain.feed(n[0], n[1], n[2], n[3], n[4]));
        }
        same("end", desk.end(bytes.length), plain.end(bytes.length));
        same("text() of " + text, desk.text(), plain.text());
        same("fault() of " + text, desk.fault(), plain.fault());
    }

    /** A text with a few signs changed, lines told again, or so many blanks that it is too long. */
    private String broken(String text) {
        StringBuilder b = new StringBuilder(text);
        String signs = " ;\n0123456789abz%" + (char) 255;
        for (int i = random.nextInt(3); i >= 0; i--) {
            int at = random.nextInt(b.length());
            char sign = signs.charAt(random.nextInt(signs.length()));
            switch (random.nextInt(6)) {
                case 0 -> b.deleteCharAt(at);
                case 1 -> b.setCharAt(at, sign);
                case 2 -> b.insert(at, sign);
                case 3 -> b.setLength(Math.max(1, at));
                case 4 -> b.append(b.substring(Math.max(0, b.lastIndexOf(";", b.length() - 2) + 1)));
                default -> b.insert(at, " ".repeat(Math.max(0, 590 + random.nextInt(30) - b.length())));
            }
            if (b.length() == 0) {
                b.append(' ');
            }
        }
        b.setLength(Math.min(b.length(), 620 + random.nextInt(21)));
        return b.toString();
    }

    private int edge() {
        return EDGES[random.nextInt(EDGES.length)];
    }

    private int or(int usual) {
        return random.nextInt(25) == 0 ? edge() : usual;
    }

    private int aLease() {
        return or(random.nextInt(Math.max(1, plain.now(2))));
    }

    /** A MONTH of a LEASE, as a rule. */
    private int monthOf(int lease) {
        try {
            int start = plain.lease(lease, 0);
            return or(start - 1 + random.nextInt(plain.lease(lease, 1) + 2));
        } catch (NoSuchElementException e) {
            return or(random.nextInt(240));
        }
    }

    private int reviewOf(int lease) {
        try {
            return or(random.nextInt(plain.lease(lease, 7) + 2));
        } catch (NoSuchElementException e) {
            return or(1);
        }
    }

    private int aKnown() {
        return or(random.nextBoolean() ? plain.now(0) : random.nextInt(240));
    }

    private void call() {
        if (random.nextInt(3) == 0) {
            act();
        } else {
            ask();
        }
    }

    private void act() {
        int lease = aLease();
        switch (random.nextInt(9)) {
            case 0, 1 -> {
                int month = or(random.nextInt(60));
                int value = or(900 + random.nextInt(300));
                same("publish(" + month + ", " + value + ")", desk.publish(month, value), plain.publish(month, value));
            }
            case 2 -> {
                int r = reviewOf(lease);
                int value = or(1 + random.nextInt(3000));
                same("market(" + lease + ", " + r + ", " + value + ")",
                    desk.market(lease, r, value), plain.market(lease, r, value));
            }
            case 3, 4, 5 -> turnovers(lease);
            case 6 -> same("breaks(" + lease + ")", desk.breaks(lease), plain.breaks(lease));
            case 7 -> {
                int months = or(1 + random.nextInt(5));
                same("pass(" + months + ")", desk.pass(months), plain.pass(months));
            }
            default -> {
                int howMany = random.nextInt(8) == 0 ? 12 : 1 + random.nextInt(2);
                for (int i = 0; i < howMany; i++) {
                    same("undo()", desk.undo(), plain.undo());
                }
            }
        }
    }

    /** A few MONTHS one behind the other, so that REVIEWS by turnover become KNOWN. */
    private void turnovers(int lease) {
        int month = monthOf(lease);
        int howMany = 1 + random.nextInt(6);
        for (int i = 0; i < howMany; i++) {
            int value = or(random.nextInt(40000));
            same("turnover(" + lease + ", " + (month + i) + ", " + value + ")",
                desk.turnover(lease, month + i, value), plain.turnover(lease, month + i, value));
        }
    }

    private void ask() {
        int lease = aLease();
        int month = monthOf(lease);
        int known = aKnown();
        String of = "(" + lease + ", " + month + ")";
        switch (random.nextInt(11)) {
            case 0 -> {
                int what = or(random.nextInt(6));
                same("now(" + what + ")", desk.now(what), plain.now(what));
            }
            case 1 -> askLease(lease);
            case 2 -> {
                int x = or(random.nextInt(70));
                same("index(" + x + ", " + known + ")", desk.index(x, known), plain.index(x, known));
            }
            case 3 -> same("rent(" + lease + ", " + month + ", " + known + ")",
                desk.rent(lease, month, known), plain.rent(lease, month, known));
            case 4 -> {
                int r = reviewOf(lease);
                int what = or(random.nextInt(5));
                same("review(" + lease + ", " + r + ", " + known + ", " + what + ")",
                    desk.review(lease, r, known, what), plain.review(lease, r, known, what));
            }
            case 5 -> same("billed" + of, desk.billed(lease, month), plain.billed(lease, month));
            case 6 -> same("trued(" + lease + ", " + known + ")", desk.trued(lease, known), plain.trued(lease, known));
            case 7 -> same("interest(" + lease + ", " + known + ")",
                desk.interest(lease, known), plain.interest(lease, known));
            case 8 -> same("spread" + of, desk.spread(lease, month), plain.spread(lease, month));
            case 9 -> same("ahead" + of, desk.ahead(lease, month), plain.ahead(lease, month));
            default -> {
                int x = or(random.nextInt(70));
                int value = or(900 + random.nextInt(300));
                same("would(" + lease + ", " + x + ", " + value + ")",
                    desk.would(lease, x, value), plain.would(lease, x, value));
            }
        }
    }

    private void askLease(int lease) {
        int what = or(random.nextInt(8));
        long want;
        try {
            want = plain.lease(lease, what);
        } catch (NoSuchElementException e) {
            want = Check.THROWN;
        }
        same("lease(" + lease + ", " + what + ")", Check.lease(desk, lease, what), want);
    }
}
