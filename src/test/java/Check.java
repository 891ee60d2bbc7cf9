import java.nio.charset.StandardCharsets;
import java.util.NoSuchElementException;

/** What the tests share: counting answers that are not as due, and telling a TEXT. */
final class Check {
    static final int REFUSED = RentReview.NONE - 99999999;
    /** How lease() is told when it throws: no answer of it is so low. */
    static final long THROWN = Long.MIN_VALUE;

    private int looked;
    private int wrong;

    void due(String call, long got, long want) {
        looked++;
        if (got != want) {
            wrong++;
            System.out.println(call + " answered " + got + ", due is " + want);
        }
    }

    void due(String call, boolean got, boolean want) {
        due(call, got ? 1 : 0, want ? 1 : 0);
    }

    int wrong() {
        return wrong;
    }

    void finish() {
        System.out.println(looked + " answers looked at, " + wrong + " not as due");
        if (wrong != 0) {
            System.exit(1);
        }
    }

    static byte[] bytes(String text) {
        return text.getBytes(StandardCharsets.ISO_8859_1);
    }

    /** Twenty bytes from a place on as the five numbers of feed(), filled up with zeros. */
    static int[] numbers(byte[] bytes, int from) {
        int[] numbers = new int[5];
        for (int i = 0; i < 20 && from + i < bytes.length; i++) {
            numbers[i / 4] |= (bytes[from + i] & 255) << (24 - 8 * (i % 4));
        }
        return numbers;
    }

    /** Feeds a text's bytes, and no others. */
    static void feed(RentReview desk, String text) {
        byte[] bytes = bytes(text);
        int before = desk.now(5);
        for (int from = 0; from < bytes.length; from += 20) {
            int[] n = numbers(bytes, from);
            desk.feed(n[0], n[1], n[2], n[3], n[4]);
        }
        desk.end(before + bytes.length);
    }

    static int tell(RentReview desk, String text) {
        feed(desk, text);
        return desk.text();
    }

    static RentReview deskOf(String text) {
        RentReview desk = new RentReview();
        if (tell(desk, text) < 0) {
            throw new IllegalStateException("a FAULT of kind " + desk.fault() + " in " + text);
        }
        return desk;
    }

    static long lease(RentReview desk, int lease, int what) {
        try {
            return desk.lease(lease, what);
        } catch (NoSuchElementException e) {
            return THROWN;
        }
    }
}
