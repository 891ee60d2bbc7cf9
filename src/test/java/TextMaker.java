import java.util.Random;

/** Makes TEXTS without a FAULT. */
final class TextMaker {
    private TextMaker() { }

    static String text(Random random) {
        StringBuilder text = new StringBuilder("rate ").append(random.nextInt(501)).append(';');
        int lines = random.nextInt(12);
        int month = random.nextInt(3);
        int value = 1000;
        for (int i = 0; i < lines; i++) {
            value = Math.max(1, Math.min(9999, value + random.nextInt(120) - 40));
            text.append("index ").append(month).append(' ').append(value).append(' ')
                .append(Math.min(239, month + random.nextInt(8))).append(';');
            month += 1 + random.nextInt(5);
        }
        int leases = 1 + random.nextInt(6);
        for (int i = 0; i < leases; i++) {
            String lease = lease(random);
            if (text.length() + lease.length() <= 600) {
                text.append(lease);
            }
        }
        return text.toString();
    }

    private static String lease(Random random) {
        boolean wide = random.nextInt(6) == 0;
        int start = random.nextInt(wide ? 120 : 12);
        int term = 1 + random.nextInt(wide ? 120 : 40);
        int rent = 1 + random.nextInt(random.nextInt(5) == 0 ? 99999 : 2000);
        int every = 1 + random.nextInt(wide ? 60 : 8);
        int free = random.nextInt(2) * random.nextInt(term + 1);
        StringBuilder text = new StringBuilder("lease ").append(start).append(' ').append(term).append(' ')
            .append(rent).append(' ').append(every).append(' ').append(free).append(';');
        if (random.nextInt(10) != 0) {
            text.append("by ").append(by(random)).append(';');
        }
        if (random.nextInt(2) == 0) {
            text.append("collar ").append(limits(random)).append(';');
        }
        if (random.nextInt(2) == 0) {
            text.append("overall ").append(limits(random)).append(';');
        }
        if (random.nextInt(3) == 0) {
            text.append("upward;");
        }
        if (term > 1 && random.nextInt(2) == 0) {
            text.append("break ").append(start + 1 + random.nextInt(term - 1)).append(';');
        }
        return text.toString();
    }

    private static String by(Random random) {
        return switch (random.nextInt(4)) {
            case 0 -> "index " + random.nextInt(random.nextInt(4) == 0 ? 13 : 3);
            case 1 -> "market";
            case 2 -> "turnover " + random.nextInt(1000);
            default -> "step " + random.nextInt(random.nextInt(3) == 0 ? 1000 : 60);
        };
    }

    private static String limits(Random random) {
        int most = random.nextInt(4) == 0 ? 1000 : 120;
        return random.nextInt(most) + " " + random.nextInt(most);
    }
}
