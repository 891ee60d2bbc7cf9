import java.util.ArrayDeque;
import java.util.ArrayList;
import java.util.Deque;
import java.util.HashMap;
import java.util.List;
import java.util.Map;
import java.util.NavigableMap;
import java.util.NoSuchElementException;
import java.util.TreeMap;
import java.util.regex.Matcher;
import java.util.regex.Pattern;

/**
 * The document once more, word for word and without regard to speed: what RandomRunsTest holds the
 * class against. It shares no way of working with it: an act is undone by going back to a copy.
 */
final class PlainDesk {
    private static final int NONE = -1;
    private static final int REFUSED = -100000000;

    private static final class Fault extends Exception {
        private static final long serialVersionUID = 1;
        final int kind;
        final int place;

        Fault(int kind, int place) {
            this.kind = kind;
            this.place = place;
        }
    }

    private record Told(int value, int from) { }

    private static final class Lease {
        int start;
        int term;
        int rent;
        int every;
        int free;
        String by = "";
        int amount;
        int[] collar;
        int[] overall;
        boolean upward;
        Integer breakMonth;
        Integer breakFrom;
        final Map<Integer, Told> told = new HashMap<>();

        Lease copy() {
            Lease c = new Lease();
            c.start = start;
            c.term = term;
            c.rent = rent;
            c.every = every;
            c.free = free;
            c.by = by;
            c.amount = amount;
            c.collar = collar;
            c.overall = overall;
            c.upward = upward;
            c.breakMonth = breakMonth;
            c.breakFrom = breakFrom;
            c.told.putAll(told);
            return c;
        }

        boolean has(int month) {
            return start <= month && month < start + term;
        }

        int end(int k) {
            return breakFrom != null && breakFrom <= k ? breakMonth : start + term;
        }

        List<Integer> reviews() {
            List<Integer> months = new ArrayList<>();
            for (int t = start + every; !by.isEmpty() && t < start + term; t += every) {
                months.add(t);
            }
            return months;
        }
    }

    private static final class State {
        int now;
        int rate;
        final TreeMap<Integer, Told> values = new TreeMap<>();
        final List<Lease> leases = new ArrayList<>();

        State copy() {
            State c = new State();
            c.now = now;
            c.rate = rate;
            c.values.putAll(values);
            for (Lease lease : leases) {
                c.leases.add(lease.copy());
            }
            return c;
        }
    }

    private State s = new State();
    private final Deque<State> olds = new ArrayDeque<>();
    private final StringBuilder tape = new StringBuilder();
    private int fault;

    // ---- the tape and the TEXT ----

    int feed(int a, int b, int c, int d, int e) {
        if (tape.length() + 20 > 640) {
            return NONE;
        }
        for (int number : new int[] {a, b, c, d, e}) {
            for (int i = 3; i >= 0; i--) {
                tape.append((char) (number >> 8 * i & 0xff));
            }
        }
        return tape.length();
    }

    boolean end(int n) {
        if (n < 0 || n > tape.length()) {
            return false;
        }
        tape.setLength(n);
        return true;
    }

    int text() {
        String text = tape.toString();
        tape.setLength(0);
        try {
            s = new Parser(text).parse();
            olds.clear();
            fault = 0;
            return s.leases.size();
        } catch (Fault f) {
            fault = f.kind;
            return -1 - f.place;
        }
    }

    int fault() {
        return fault;
    }

    private static final class Parser {
        private static final Pattern TOKEN = Pattern.compile("[a-z0-9]+|[^ \n]");
        private final String text;
        private final Matcher matcher;
        private String token;
        private int at;

        Parser(String text) {
            this.text = text;
            this.matcher = TOKEN.matcher(text);
        }

        /** The empty token is the end. */
        private void next() throws Fault {
            boolean found = matcher.find();
            token = found ? matcher.group() : "";
            at = found ? matcher.start() : text.length();
            if (at >= 600 && text.length() > 600) {
                throw new Fault(1, 600);
            }
            if (found && !token.matches("[a-z]+|[0-9]{1,5}|;")) {
                throw new Fault(1, at);
            }
        }

        private void semicolon() throws Fault {
            if (!token.equals(";")) {
                throw new Fault(1, at);
            }
            next();
        }

        private int number(int least, int most) throws Fault {
            if (!token.matches("[0-9]+")) {
                throw new Fault(1, at);
            }
            int n = Integer.parseInt(token);
            if (n < least || n > most) {
                throw new Fault(2, at);
            }
            return n;
        }

        private int taken(int least, int most) throws Fault {
            int n = number(least, most);
            next();
            return n;
        }

        State parse() throws Fault {
            State read = new State();
            next();
            if (!token.equals("rate")) {
                throw new Fault(1, at);
            }
            next();
            read.rate = taken(0, 500);
            semicolon();
            while (token.equals("index")) {
                indexLine(read);
            }
            while (token.equals("lease")) {
                if (read.leases.size() == 6) {
                    throw new Fault(3, at);
                }
                read.leases.add(leaseLine());
            }
            if (!token.isEmpty()) {
                throw new Fault(1, at);
            }
            return read;
        }

        private void indexLine(State read) throws Fault {
            if (read.values.size() == 20) {
                throw new Fault(3, at);
            }
            next();
            int month = number(0, 239);
            if (read.values.containsKey(month)) {
                throw new Fault(2, at);
            }
            next();
            int value = taken(1, 9999);
            int known = taken(0, 239);
            semicolon();
            read.values.put(month, new Told(value, known));
        }

        private Lease leaseLine() throws Fault {
            Lease lease = new Lease();
            next();
            lease.start = taken(0, 119);
            lease.term = taken(1, 120);
            lease.rent = taken(1, 99999);
            lease.every = taken(1, 60);
            lease.free = taken(0, lease.term);
            semicolon();
            List<String> parts = new ArrayList<>();
            while (token.matches("by|collar|overall|upward|break")) {
                if (parts.contains(token)) {
                    throw new Fault(4, at);
                }
                parts.add(token);
                part(lease);
                semicolon();
            }
            return lease;
        }

        private void part(Lease lease) throws Fault {
            String word = token;
            next();
            switch (word) {
                case "by" -> {
                    if (!token.matches("index|market|turnover|step")) {
                        throw new Fault(1, at);
                    }
                    lease.by = token;
                    next();
                    if (!lease.by.equals("market")) {
                        lease.amount = taken(0, lease.by.equals("index") ? 12 : 999);
                    }
                }
                case "collar" -> lease.collar = new int[] {taken(0, 999), taken(0, 999)};
                case "overall" -> lease.overall = new int[] {taken(0, 999), taken(0, 999)};
                case "upward" -> lease.upward = true;
                default -> lease.breakMonth = taken(lease.start + 1, lease.start + lease.term - 1);
            }
        }
    }

    // ---- what is asked ----

    int now(int what) {
        int[] all = {s.now, s.rate, s.leases.size(), s.values.size(), olds.size(), tape.length()};
        return what >= 0 && what < all.length ? all[what] : NONE;
    }

    private Lease at(int lease) {
        return lease >= 0 && lease < s.leases.size() ? s.leases.get(lease) : null;
    }

    private static boolean month(int m) {
        return m >= 0 && m <= 239;
    }

    int lease(int lease, int what) {
        Lease l = at(lease);
        if (l == null || what < 0 || what > 7) {
            throw new NoSuchElementException();
        }
        int by = List.of("", "index", "market", "turnover", "step").indexOf(l.by);
        return new int[] {l.start, l.term, l.rent, l.every, l.free, by, l.end(s.now),
            l.reviews().size()}[what];
    }

    /** INDEX, or null. */
    private Integer indexOf(int x, int k) {
        NavigableMap<Integer, Integer> known = new TreeMap<>();
        s.values.forEach((m, told) -> {
            if (told.from <= k) {
                known.put(m, told.value);
            }
        });
        if (known.containsKey(x)) {
            return known.get(x);
        }
        Map.Entry<Integer, Integer> a = known.lowerEntry(x);
        Map.Entry<Integer, Integer> b = known.higherEntry(x);
        if (a == null || b == null) {
            return null;
        }
        return a.getValue()
            + (b.getValue() - a.getValue()) * (x - a.getKey()) / (b.getKey() - a.getKey());
    }

    int index(int month, int known) {
        Integer found = month(month) && month(known) ? indexOf(month, known) : null;
        return found == null ? NONE : found;
    }

    /** WANTED by the REVIEW at t, or null; then is the RENT of then. */
    private Long wanted(Lease l, int r, int t, long then, int k) {
        switch (l.by) {
            case "index": {
                Integer above = indexOf(t - l.amount, k);
                Integer below = indexOf(l.start - l.amount, k);
                return above == null || below == null ? null : (long) l.rent * above / below;
            }
            case "market": {
                Told told = l.told.get(r);
                return told == null || told.from > k ? null : (long) told.value;
            }
            case "turnover": {
                long sum = 0;
                for (int m = t - l.every; m < t; m++) {
                    Told told = l.told.get(m);
                    if (told == null || told.from > k) {
                        return null;
                    }
                    sum += told.value;
                }
                return Math.max(l.rent, sum * l.amount / 1000 / l.every);
            }
            default:
                return then * (1000 + l.amount) / 1000;
        }
    }

    /** Of REVIEW r, from 0 on: its MONTH, WANTED (or null), RENT, the least, the most. */
    private List<Long[]> reviewsOf(Lease l, int k) {
        List<Long[]> all = new ArrayList<>();
        long told = l.rent;
        all.add(new Long[] {(long) l.start, null, told, told, told});
        for (int t : l.reviews()) {
            Long[] old = all.get(all.size() - 1);
            long then = old[2];
            long least = old[3] * (1000 - (l.overall == null ? 0 : l.overall[0])) / 1000;
            long most = Math.min(999999, old[4] * (1000 + (l.overall == null ? 0 : l.overall[1])) / 1000);
            Long wanted = wanted(l, all.size(), t, then, k);
            long rent = then;
            if (wanted != null) {
                rent = wanted;
                if (l.collar != null) {
                    rent = Math.max(rent, then * (1000 - l.collar[0]) / 1000);
                    rent = Math.min(rent, then * (1000 + l.collar[1]) / 1000);
                }
                if (l.overall != null) {
                    rent = Math.max(rent, least);
                    rent = Math.min(rent, most);
                }
                if (l.upward) {
                    rent = Math.max(rent, then);
                }
                rent = Math.min(999999, Math.max(1, rent));
            }
            all.add(new Long[] {(long) t, wanted, rent, least, most});
        }
        return all;
    }

    /** DUE of each MONTH of a LEASE as told, the first at 0; without FREE, if so asked, RENT. */
    private long[] row(Lease l, int k, boolean due) {
        long[] row = new long[l.term];
        List<Long[]> reviews = reviewsOf(l, k);
        for (int i = 0; i < l.term; i++) {
            int done = l.by.isEmpty() ? 0 : i / l.every;
            row[i] = due && i < l.free ? 0 : reviews.get(done)[2];
        }
        return row;
    }

    int rent(int lease, int month, int known) {
        Lease l = at(lease);
        if (l == null || !l.has(month) || !month(known)) {
            return NONE;
        }
        return (int) row(l, known, false)[month - l.start];
    }

    int review(int lease, int r, int known, int what) {
        Lease l = at(lease);
        if (l == null || r < 1 || r > l.reviews().size() || !month(known) || what < 0 || what > 4) {
            return REFUSED;
        }
        Long answer = reviewsOf(l, known).get(r)[what];
        return answer == null || what >= 3 && l.overall == null ? NONE : Math.toIntExact(answer);
    }

    int billed(int lease, int month) {
        Lease l = at(lease);
        if (l == null || !l.has(month) || month >= l.end(month)) {
            return NONE;
        }
        return (int) row(l, month, true)[month - l.start];
    }

    int trued(int lease, int month) {
        return trueUp(lease, month, false);
    }

    int interest(int lease, int month) {
        return trueUp(lease, month, true);
    }

    private int trueUp(int lease, int k, boolean interest) {
        Lease l = at(lease);
        if (l == null || k < 1 || k > 239) {
            return REFUSED;
        }
        long[] after = row(l, k, true);
        long[] before = row(l, k - 1, true);
        long sum = 0;
        for (int m = l.start; m < k && m < l.end(k); m++) {
            long more = after[m - l.start] - before[m - l.start];
            sum += interest ? more * s.rate * (k - m) / 12000 : more;
        }
        return Math.toIntExact(sum);
    }

    private long[] spreads(Lease l, int last) {
        long[] spreads = new long[l.term];
        long done = 0;
        for (int m = l.start; m <= last; m++) {
            int end = l.end(m);
            if (m < end) {
                long[] due = row(l, m, true);
                long sum = 0;
                for (int i = l.start; i < end; i++) {
                    sum += due[i - l.start];
                }
                spreads[m - l.start] = (sum - done) / (end - m);
                done += spreads[m - l.start];
            }
        }
        return spreads;
    }

    int spread(int lease, int month) {
        Lease l = at(lease);
        if (l == null || !l.has(month)) {
            return REFUSED;
        }
        return Math.toIntExact(spreads(l, month)[month - l.start]);
    }

    int ahead(int lease, int month) {
        Lease l = at(lease);
        if (l == null || !l.has(month)) {
            return REFUSED;
        }
        long[] spreads = spreads(l, month);
        long[] due = row(l, month, true);
        long sum = 0;
        for (int m = l.start; m <= month && m < l.end(month); m++) {
            sum += spreads[m - l.start] - due[m - l.start];
        }
        return Math.toIntExact(sum);
    }

    int would(int lease, int month, int value) {
        Lease l = at(lease);
        if (l == null || !l.has(s.now)) {
            return NONE;
        }
        State kept = s.copy();
        int answer = publishInto(month, value);
        if (answer >= 0) {
            answer = rent(lease, s.now, s.now);
        }
        s = kept;
        return answer;
    }

    // ---- what is done ----

    private void keep(State old) {
        olds.push(old);
        if (olds.size() > 10) {
            olds.removeLast();
        }
    }

    private int publishInto(int month, int value) {
        if (!month(month) || value < 1 || value > 9999 || s.values.containsKey(month)) {
            return NONE;
        }
        if (s.values.size() == 40) {
            return -2;
        }
        s.values.put(month, new Told(value, s.now));
        return s.values.size();
    }

    int publish(int month, int value) {
        State old = s.copy();
        int answer = publishInto(month, value);
        if (answer >= 0) {
            keep(old);
        }
        return answer;
    }

    int market(int lease, int r, int value) {
        Lease l = at(lease);
        if (l == null || !l.by.equals("market") || r < 1 || r > l.reviews().size()
                || value < 1 || value > 99999 || l.told.containsKey(r)) {
            return NONE;
        }
        keep(s.copy());
        l.told.put(r, new Told(value, s.now));
        return l.reviews().get(r - 1);
    }

    boolean turnover(int lease, int month, int value) {
        Lease l = at(lease);
        if (l == null || !l.by.equals("turnover") || !l.has(month)
                || value < 0 || value > 999999 || l.told.containsKey(month)) {
            return false;
        }
        keep(s.copy());
        l.told.put(month, new Told(value, s.now));
        return true;
    }

    int breaks(int lease) {
        Lease l = at(lease);
        if (l == null || l.breakMonth == null || l.breakMonth <= s.now || l.breakFrom != null) {
            return NONE;
        }
        keep(s.copy());
        l.breakFrom = s.now;
        return l.breakMonth;
    }

    int pass(int months) {
        if (months < 1 || months > 99 || s.now + months > 239) {
            return NONE;
        }
        keep(s.copy());
        s.now += months;
        return s.now;
    }

    int undo() {
        if (olds.isEmpty()) {
            return NONE;
        }
        s = olds.pop();
        return olds.size();
    }
}
