import java.util.Arrays;
import java.util.NoSuchElementException;

/** A rent review desk. The words in capitals are the terms of the document DOC.md. */
public final class RentReview {
    public static final int NONE = -1;

    /** The refusal of the calls whose answer may well be -1. */
    private static final int REFUSED = NONE - 99999999;
    /** The refusal of a VALUE when as many MONTHS have one as may. */
    private static final int FULL = -2;

    private static final int MONTHS = 240;
    /** No MONTH comes so late: what is KNOWN from it on is not KNOWN. */
    private static final int NEVER = MONTHS;
    private static final int MOST_TERM = 120;
    private static final int MOST_LEASES = 6;
    private static final int MOST_LINES = 20;
    private static final int MOST_VALUES = 40;
    private static final int MOST_VALUE = 9999;
    private static final int MOST_TOLD_RENT = 99999;
    private static final int MOST_RENT = 999999;
    private static final int MOST_TURNOVER = 999999;
    private static final int MOST_PASSED = 99;
    private static final int MOST_KEPT = 10;

    private static final int TAPE_BYTES = 640;
    private static final int FED_BYTES = 20;
    private static final int TEXT_BYTES = 600;

    private static final int NOT_REVIEWED = 0;
    private static final int BY_INDEX = 1;
    private static final int BY_MARKET = 2;
    private static final int BY_TURNOVER = 3;
    private static final int BY_STEP = 4;

    private static final int PUBLISHED = 1;
    private static final int TOLD = 2;
    private static final int BROKEN = 3;
    private static final int PASSED = 4;

    private final Tape tape;
    private final Reader reader;
    private final Acts acts;
    private final Walk walk;
    private final Walk walkBefore;
    private final Spreads spreads;
    private Book book;
    /** A TEXT is read into this one, so that a FAULT leaves the other as it was. */
    private Book spare;
    private int now;
    private int latestFault;

    public RentReview() {
        tape = new Tape();
        reader = new Reader();
        acts = new Acts();
        walk = new Walk();
        walkBefore = new Walk();
        spreads = new Spreads();
        book = new Book();
        spare = new Book();
    }

    public int feed(int a, int b, int c, int d, int e) {
        if (tape.length + FED_BYTES > TAPE_BYTES) {
            return NONE;
        }
        tape.add(a);
        tape.add(b);
        tape.add(c);
        tape.add(d);
        tape.add(e);
        return tape.length;
    }

    public boolean end(int n) {
        if (n < 0 || n > tape.length) {
            return false;
        }
        tape.length = n;
        return true;
    }

    public int text() {
        boolean isText = reader.read(tape, spare);
        tape.length = 0;
        latestFault = reader.fault;
        if (!isText) {
            return -1 - reader.place;
        }
        Book old = book;
        book = spare;
        spare = old;
        now = 0;
        acts.clear();
        return book.leaseCount;
    }

    public int fault() {
        return latestFault;
    }

    public int now(int what) {
        switch (what) {
            case 0:
                return now;
            case 1:
                return book.rate;
            case 2:
                return book.leaseCount;
            case 3:
                return book.values.count;
            case 4:
                return acts.count;
            case 5:
                return tape.length;
            default:
                return NONE;
        }
    }

    public int lease(int lease, int what) throws NoSuchElementException {
        Lease asked = book.leaseAt(lease);
        if (asked == null) {
            throw new NoSuchElementException("no such LEASE");
        }
        switch (what) {
            case 0:
                return asked.start;
            case 1:
                return asked.term;
            case 2:
                return asked.toldRent;
            case 3:
                return asked.every;
            case 4:
                return asked.free;
            case 5:
                return asked.by;
            case 6:
                return asked.endKnownIn(now);
            case 7:
                return asked.reviews();
            default:
                throw new NoSuchElementException("no such thing of a LEASE");
        }
    }

    public int index(int month, int known) {
        if (!isMonth(month) || !isMonth(known)) {
            return NONE;
        }
        walk.knowIndex(book.values, known);
        int found = walk.indexOf(month);
        return found == 0 ? NONE : found;
    }

    public int rent(int lease, int month, int known) {
        Lease asked = book.leaseAt(lease);
        if (asked == null || !asked.hasMonth(month) || !isMonth(known)) {
            return NONE;
        }
        return rentKnownIn(asked, month, known);
    }

    public int review(int lease, int r, int known, int what) {
        Lease asked = book.leaseAt(lease);
        if (asked == null || !asked.hasReview(r) || !isMonth(known)) {
            return REFUSED;
        }
        walk.begin(asked, book.values, known);
        walk.goTo(asked, asked.reviewMonth(r));
        switch (what) {
            case 0:
                return asked.reviewMonth(r);
            case 1:
                return walk.wanted;
            case 2:
                return walk.rent;
            case 3:
                return asked.overall.told ? walk.least : NONE;
            case 4:
                return asked.overall.told ? walk.most : NONE;
            default:
                return REFUSED;
        }
    }

    public int billed(int lease, int month) {
        Lease asked = book.leaseAt(lease);
        if (asked == null || !asked.hasMonth(month) || month >= asked.endKnownIn(month)) {
            return NONE;
        }
        walk.begin(asked, book.values, month);
        return walk.dueIn(asked, month);
    }

    public int trued(int lease, int month) {
        return trueUp(lease, month, false);
    }

    public int interest(int lease, int month) {
        return trueUp(lease, month, true);
    }

    public int spread(int lease, int month) {
        Lease asked = book.leaseAt(lease);
        if (asked == null || !asked.hasMonth(month)) {
            return REFUSED;
        }
        spreads.goTo(asked, book, walk, month);
        return spreads.latest;
    }

    public int ahead(int lease, int month) {
        Lease asked = book.leaseAt(lease);
        if (asked == null || !asked.hasMonth(month)) {
            return REFUSED;
        }
        int last = Math.min(month, asked.endKnownIn(month) - 1);
        spreads.goTo(asked, book, walk, last);
        walk.begin(asked, book.values, month);
        return spreads.together - walk.dueBelow(asked, last + 1);
    }

    public int would(int lease, int month, int value) {
        Lease asked = book.leaseAt(lease);
        if (asked == null || !asked.hasMonth(now)) {
            return NONE;
        }
        int refusal = refusalOf(month, value);
        if (refusal != 0) {
            return refusal;
        }
        book.values.tell(month, value, now);
        int rent = rentKnownIn(asked, now, now);
        book.values.drop(month);
        return rent;
    }

    public int publish(int month, int value) {
        int refusal = refusalOf(month, value);
        if (refusal != 0) {
            return refusal;
        }
        book.values.tell(month, value, now);
        book.addNews(now, 1);
        acts.keep(PUBLISHED, NONE, month);
        return book.values.count;
    }

    public int market(int lease, int r, int value) {
        Lease asked = book.leaseAt(lease);
        if (asked == null || asked.by != BY_MARKET || !asked.hasReview(r)) {
            return NONE;
        }
        if (value < 1 || value > MOST_TOLD_RENT || asked.wasTold(r)) {
            return NONE;
        }
        tellOfLease(asked, lease, r, value);
        return asked.reviewMonth(r);
    }

    public boolean turnover(int lease, int month, int value) {
        Lease asked = book.leaseAt(lease);
        if (asked == null || asked.by != BY_TURNOVER || !asked.hasMonth(month)) {
            return false;
        }
        int place = month - asked.start;
        if (value < 0 || value > MOST_TURNOVER || asked.wasTold(place)) {
            return false;
        }
        tellOfLease(asked, lease, place, value);
        return true;
    }

    public int breaks(int lease) {
        Lease asked = book.leaseAt(lease);
        if (asked == null || asked.breakMonth == NONE) {
            return NONE;
        }
        if (asked.breakMonth <= now || asked.breakFrom != NEVER) {
            return NONE;
        }
        asked.breakFrom = now;
        book.addNews(now, 1);
        acts.keep(BROKEN, lease, NONE);
        return asked.breakMonth;
    }

    public int pass(int months) {
        if (months < 1 || months > MOST_PASSED || !isMonth(now + months)) {
            return NONE;
        }
        now += months;
        acts.keep(PASSED, NONE, months);
        return now;
    }

    public int undo() {
        if (acts.count == 0) {
            return NONE;
        }
        takeBack(acts.latestKind(), book.leaseAt(acts.latestLease()), acts.latestPlace());
        acts.dropLatest();
        return acts.count;
    }

    private static boolean isMonth(int month) {
        return month >= 0 && month < MONTHS;
    }

    /** What publish() answers where it is refused; 0 where it is not. */
    private int refusalOf(int month, int value) {
        if (!isMonth(month) || value < 1 || value > MOST_VALUE || book.values.has(month)) {
            return NONE;
        }
        return book.values.count >= MOST_VALUES ? FULL : 0;
    }

    private int rentKnownIn(Lease asked, int month, int known) {
        walk.begin(asked, book.values, known);
        walk.goTo(asked, month);
        return walk.rent;
    }

    /** TRUED in a MONTH, or the INTEREST on it. */
    private int trueUp(int lease, int month, boolean asInterest) {
        Lease asked = book.leaseAt(lease);
        if (asked == null || month < 1 || !isMonth(month)) {
            return REFUSED;
        }
        walk.begin(asked, book.values, month);
        walkBefore.begin(asked, book.values, month - 1);
        int below = Math.min(month, asked.endKnownIn(month));
        int together = 0;
        for (int past = asked.start; past < below; past++) {
            int more = walk.dueIn(asked, past) - walkBefore.dueIn(asked, past);
            together += asInterest ? interestOn(more, month - past) : more;
        }
        return together;
    }

    private int interestOn(long more, int months) {
        return (int) (more * book.rate * months / 12000);
    }

    private void tellOfLease(Lease asked, int lease, int place, int value) {
        asked.tell(place, value, now);
        book.addNews(now, 1);
        acts.keep(TOLD, lease, place);
    }

    /** Acts are undone from the latest on, so NOW is again the MONTH in which this one was done. */
    private void takeBack(int kind, Lease acted, int place) {
        if (kind == PASSED) {
            now -= place;
            return;
        }
        book.addNews(now, -1);
        if (kind == PUBLISHED) {
            book.values.drop(place);
        } else if (kind == TOLD && acted != null) {
            acted.drop(place);
        } else if (kind == BROKEN && acted != null) {
            acted.breakFrom = NEVER;
        }
    }

    /** The bytes that were fed since the latest text(). */
    static final class Tape {
        final int[] bytes = new int[TAPE_BYTES];
        int length;

        void add(int number) {
            for (int shift = 24; shift >= 0 && length < bytes.length; shift -= 8) {
                bytes[length] = (number >>> shift) & 255;
                length++;
            }
        }

        /** The byte at a place; NONE outside. */
        int byteAt(int place) {
            return place >= 0 && place < length && place < bytes.length ? bytes[place] : NONE;
        }
    }

    /** The TOKENS of a tape, up to its end or the first place that holds none. */
    static final class Tokens {
        static final int END = 0;
        static final int NO_TOKEN = 1;
        static final int SEMICOLON = 2;
        static final int NUMBER = 3;
        static final int OTHER_WORD = 4;
        static final int RATE = 5;
        static final int INDEX = 6;
        static final int LEASE = 7;
        static final int BY = 8;
        static final int MARKET = 9;
        static final int TURNOVER = 10;
        static final int STEP = 11;
        static final int COLLAR = 12;
        static final int OVERALL = 13;
        static final int UPWARD = 14;
        static final int BREAK = 15;

        private static final int MOST_DIGITS = 5;

        /** A TOKEN has a byte at least, and the end is one more. */
        final int[] kinds = new int[TEXT_BYTES + 1];
        final int[] places = new int[TEXT_BYTES + 1];
        final int[] numbers = new int[TEXT_BYTES + 1];
        int count;
        /** The number of the run that was read last, if it is one. */
        private int number;

        void scan(Tape tape) {
            count = 0;
            int limit = Math.min(tape.length, TEXT_BYTES);
            int at = 0;
            while (at < limit) {
                int sign = tape.byteAt(at);
                int behind = at + 1;
                if (sign == ';') {
                    add(SEMICOLON, at, 0);
                } else if (!isBlank(sign)) {
                    behind = endOfRun(tape, at);
                    int kind = kindOfRun(tape, at, behind);
                    add(kind, at, number);
                    if (kind == NO_TOKEN) {
                        return;
                    }
                }
                at = Math.max(behind, at + 1);
            }
            // A tape that is too long ends in a place where nothing can come.
            add(tape.length > TEXT_BYTES ? NO_TOKEN : END, limit, 0);
        }

        private void add(int kind, int place, int number) {
            if (count < kinds.length && count < places.length && count < numbers.length) {
                kinds[count] = kind;
                places[count] = place;
                numbers[count] = number;
                count++;
            }
        }

        private static boolean isBlank(int sign) {
            return sign == 32 || sign == 10;
        }

        private static boolean isLetter(int sign) {
            return sign >= 'a' && sign <= 'z';
        }

        private static boolean isDigit(int sign) {
            return sign >= '0' && sign <= '9';
        }

        private static int endOfRun(Tape tape, int from) {
            int behind = from;
            while (behind < tape.length
                    && (isLetter(tape.byteAt(behind)) || isDigit(tape.byteAt(behind)))) {
                behind++;
            }
            return behind;
        }

        private int kindOfRun(Tape tape, int from, int behind) {
            int letters = 0;
            number = 0;
            for (int at = from; at < behind; at++) {
                int sign = tape.byteAt(at);
                if (isLetter(sign)) {
                    letters++;
                } else {
                    number = number * 10 + (sign - '0');
                }
            }
            int length = behind - from;
            if (length > 0 && letters == length) {
                return kindOfWord(tape, from, length);
            }
            return length > 0 && letters == 0 && length <= MOST_DIGITS ? NUMBER : NO_TOKEN;
        }

        private static int kindOfWord(Tape tape, int from, int length) {
            if (spells(tape, from, length, "rate")) {
                return RATE;
            }
            if (spells(tape, from, length, "index")) {
                return INDEX;
            }
            if (spells(tape, from, length, "lease")) {
                return LEASE;
            }
            if (spells(tape, from, length, "by")) {
                return BY;
            }
            if (spells(tape, from, length, "market")) {
                return MARKET;
            }
            if (spells(tape, from, length, "turnover")) {
                return TURNOVER;
            }
            if (spells(tape, from, length, "step")) {
                return STEP;
            }
            if (spells(tape, from, length, "collar")) {
                return COLLAR;
            }
            if (spells(tape, from, length, "overall")) {
                return OVERALL;
            }
            if (spells(tape, from, length, "upward")) {
                return UPWARD;
            }
            return spells(tape, from, length, "break") ? BREAK : OTHER_WORD;
        }

        private static boolean spells(Tape tape, int from, int length, String word) {
            if (word.length() != length) {
                return false;
            }
            for (int i = 0; i < word.length(); i++) {
                if (tape.byteAt(from + i) != word.charAt(i)) {
                    return false;
                }
            }
            return true;
        }
    }

    /** Reads a tape as a TEXT into a book, or finds its FAULT. */
    static final class Reader {
        private static final int CANNOT_COME = 1;
        private static final int WRONG_NUMBER = 2;
        private static final int ONE_TOO_MANY = 3;
        private static final int PART_AGAIN = 4;

        private static final int MOST_RATE = 500;
        private static final int MOST_START = 119;
        private static final int MOST_EVERY = 60;
        private static final int MOST_LAG = 12;
        private static final int MOST_THOUSANDTHS = 999;
        private static final int PARTS = 5;

        final Tokens tokens = new Tokens();
        int fault;
        int place;
        private int next;
        private int kind;
        private int number;
        private int taken;

        boolean read(Tape tape, Book book) {
            tokens.scan(tape);
            book.clear();
            fault = 0;
            next = 0;
            advance();
            return readRate(book) && readIndexLines(book) && readLeases(book) && isAtEnd();
        }

        private boolean readRate(Book book) {
            if (!take(Tokens.RATE) || !takeNumber(0, MOST_RATE)) {
                return false;
            }
            book.rate = taken;
            return take(Tokens.SEMICOLON);
        }

        private boolean readIndexLines(Book book) {
            for (int line = 0; line <= MOST_LINES && kind == Tokens.INDEX; line++) {
                if (line == MOST_LINES) {
                    return refuse(ONE_TOO_MANY);
                }
                if (!readIndexLine(book)) {
                    return false;
                }
            }
            return true;
        }

        private boolean readIndexLine(Book book) {
            advance();
            if (kind == Tokens.NUMBER && book.values.has(number)) {
                return refuse(WRONG_NUMBER);
            }
            if (!takeNumber(0, MONTHS - 1)) {
                return false;
            }
            int month = taken;
            if (!takeNumber(1, MOST_VALUE)) {
                return false;
            }
            int value = taken;
            if (!takeNumber(0, MONTHS - 1)) {
                return false;
            }
            book.values.tell(month, value, taken);
            book.addNews(taken, 1);
            return take(Tokens.SEMICOLON);
        }

        private boolean readLeases(Book book) {
            for (int line = 0; line <= MOST_LEASES && kind == Tokens.LEASE; line++) {
                Lease lease = book.addLease();
                if (lease == null) {
                    return refuse(ONE_TOO_MANY);
                }
                if (!readLeaseLine(lease) || !readParts(lease)) {
                    return false;
                }
            }
            return true;
        }

        private boolean readLeaseLine(Lease lease) {
            advance();
            if (!takeNumber(0, MOST_START)) {
                return false;
            }
            lease.start = taken;
            if (!takeNumber(1, MOST_TERM)) {
                return false;
            }
            lease.term = taken;
            if (!takeNumber(1, MOST_TOLD_RENT)) {
                return false;
            }
            lease.toldRent = taken;
            if (!takeNumber(1, MOST_EVERY)) {
                return false;
            }
            lease.every = taken;
            if (!takeNumber(0, lease.term)) {
                return false;
            }
            lease.free = taken;
            return take(Tokens.SEMICOLON);
        }

        /** Each PART comes once, so behind all of them the next one is told again. */
        private boolean readParts(Lease lease) {
            for (int part = 0; part <= PARTS && isPart(); part++) {
                if (isToldIn(lease)) {
                    return refuse(PART_AGAIN);
                }
                if (!readPart(lease) || !take(Tokens.SEMICOLON)) {
                    return false;
                }
            }
            return true;
        }

        private boolean isPart() {
            return kind == Tokens.BY || kind == Tokens.COLLAR || kind == Tokens.OVERALL
                    || kind == Tokens.UPWARD || kind == Tokens.BREAK;
        }

        private boolean isToldIn(Lease lease) {
            switch (kind) {
                case Tokens.BY:
                    return lease.by != NOT_REVIEWED;
                case Tokens.COLLAR:
                    return lease.collar.told;
                case Tokens.OVERALL:
                    return lease.overall.told;
                case Tokens.UPWARD:
                    return lease.upward;
                default:
                    return lease.breakMonth != NONE;
            }
        }

        private boolean readPart(Lease lease) {
            int part = kind;
            advance();
            switch (part) {
                case Tokens.BY:
                    return readBy(lease);
                case Tokens.COLLAR:
                    return readLimits(lease.collar);
                case Tokens.OVERALL:
                    return readLimits(lease.overall);
                case Tokens.UPWARD:
                    lease.upward = true;
                    return true;
                default:
                    return readBreak(lease);
            }
        }

        private boolean readBy(Lease lease) {
            int by = kind;
            switch (by) {
                case Tokens.INDEX:
                    lease.by = BY_INDEX;
                    break;
                case Tokens.MARKET:
                    lease.by = BY_MARKET;
                    break;
                case Tokens.TURNOVER:
                    lease.by = BY_TURNOVER;
                    break;
                case Tokens.STEP:
                    lease.by = BY_STEP;
                    break;
                default:
                    return refuse(CANNOT_COME);
            }
            advance();
            if (by == Tokens.MARKET) {
                return true;
            }
            if (!takeNumber(0, by == Tokens.INDEX ? MOST_LAG : MOST_THOUSANDTHS)) {
                return false;
            }
            lease.amount = taken;
            return true;
        }

        private boolean readLimits(Limits limits) {
            if (!takeNumber(0, MOST_THOUSANDTHS)) {
                return false;
            }
            limits.floor = taken;
            if (!takeNumber(0, MOST_THOUSANDTHS)) {
                return false;
            }
            limits.cap = taken;
            limits.told = true;
            return true;
        }

        private boolean readBreak(Lease lease) {
            if (!takeNumber(lease.start + 1, lease.start + lease.term - 1)) {
                return false;
            }
            lease.breakMonth = taken;
            return true;
        }

        private boolean isAtEnd() {
            return kind == Tokens.END || refuse(CANNOT_COME);
        }

        private boolean take(int wantedKind) {
            if (kind != wantedKind) {
                return refuse(CANNOT_COME);
            }
            advance();
            return true;
        }

        private boolean takeNumber(int least, int most) {
            if (kind != Tokens.NUMBER) {
                return refuse(CANNOT_COME);
            }
            if (number < least || number > most) {
                return refuse(WRONG_NUMBER);
            }
            taken = number;
            advance();
            return true;
        }

        /** Behind the last TOKEN the reader stays: nothing can be taken there. */
        private void advance() {
            if (next >= 0 && next < tokens.count && next < tokens.kinds.length
                    && next < tokens.places.length && next < tokens.numbers.length) {
                kind = tokens.kinds[next];
                place = tokens.places[next];
                number = tokens.numbers[next];
                next++;
            }
        }

        private boolean refuse(int faultKind) {
            fault = faultKind;
            return false;
        }
    }

    /** What a TEXT tells, and what calls have told since. */
    static final class Book {
        final Values values = new Values();
        final Lease[] leases = new Lease[MOST_LEASES];
        /** How many things become KNOWN in each MONTH: without one all stays as KNOWN ahead of it. */
        final int[] news = new int[MONTHS];
        int rate;
        int leaseCount;

        Book() {
            for (int i = 0; i < leases.length; i++) {
                leases[i] = new Lease();
            }
        }

        void clear() {
            values.clear();
            Arrays.fill(news, 0);
            rate = 0;
            leaseCount = 0;
        }

        /** One more LEASE, with nothing told yet; null if there are as many as may be. */
        Lease addLease() {
            if (leaseCount < 0 || leaseCount >= leases.length) {
                return null;
            }
            Lease added = leases[leaseCount];
            if (added != null) {
                added.clear();
                leaseCount++;
            }
            return added;
        }

        /** The LEASE of a number; null if there is none. */
        Lease leaseAt(int number) {
            return number >= 0 && number < leaseCount && number < leases.length
                    ? leases[number] : null;
        }

        void addNews(int month, int howMany) {
            if (month >= 0 && month < news.length) {
                news[month] += howMany;
            }
        }

        boolean hasNews(int month) {
            return month >= 0 && month < news.length && news[month] > 0;
        }
    }

    /** The VALUES of the index, each with the MONTH from which on it is KNOWN. */
    static final class Values {
        /** 0 in a MONTH without one. */
        final int[] told = new int[MONTHS];
        final int[] knownFrom = new int[MONTHS];
        int count;

        void clear() {
            Arrays.fill(told, 0);
            Arrays.fill(knownFrom, NEVER);
            count = 0;
        }

        boolean has(int month) {
            return month >= 0 && month < told.length && told[month] != 0;
        }

        void tell(int month, int value, int from) {
            if (month >= 0 && month < told.length && month < knownFrom.length) {
                told[month] = value;
                knownFrom[month] = from;
                count++;
            }
        }

        void drop(int month) {
            if (month >= 0 && month < told.length && month < knownFrom.length) {
                told[month] = 0;
                knownFrom[month] = NEVER;
                count--;
            }
        }

        /** The INDEX of every MONTH, 0 where there is none. */
        void fillIndex(int[] row, int known) {
            Arrays.fill(row, 0);
            int last = NONE;
            for (int month = 0; month < row.length && month < knownFrom.length; month++) {
                if (has(month) && knownFrom[month] <= known) {
                    row[month] = told[month];
                    fillBetween(row, last, month);
                    last = month;
                }
            }
        }

        private static void fillBetween(int[] row, int a, int b) {
            int apart = b - a;
            if (a < 0 || b >= row.length || apart < 1) {
                return;
            }
            int more = row[b] - row[a];
            for (int month = a + 1; month < b; month++) {
                row[month] = row[a] + more * (month - a) / apart;
            }
        }
    }

    /** A floor and a cap in thousandths, if they are told. */
    static final class Limits {
        boolean told;
        int floor;
        int cap;

        void clear() {
            told = false;
            floor = 0;
            cap = 0;
        }
    }

    /** A LEASE as told, and what calls have told of it. */
    static final class Lease {
        final Limits collar = new Limits();
        final Limits overall = new Limits();
        /** By REVIEW the markets, or by how many MONTHS behind START the TURNOVERS. */
        final int[] told = new int[MOST_TERM];
        final int[] toldFrom = new int[MOST_TERM];
        int start;
        int term;
        int toldRent;
        int every;
        int free;
        int by;
        /** The LAG, SHARE or STEP that stands behind 'by'. */
        int amount;
        boolean upward;
        int breakMonth;
        int breakFrom;

        void clear() {
            collar.clear();
            overall.clear();
            Arrays.fill(told, 0);
            Arrays.fill(toldFrom, NEVER);
            start = 0;
            term = 0;
            toldRent = 0;
            every = 0;
            free = 0;
            by = NOT_REVIEWED;
            amount = 0;
            upward = false;
            breakMonth = NONE;
            breakFrom = NEVER;
        }

        boolean hasMonth(int month) {
            return month >= start && month < start + term;
        }

        boolean isFree(int month) {
            return month < start + free;
        }

        int endKnownIn(int known) {
            return breakFrom <= known ? breakMonth : start + term;
        }

        int reviews() {
            return by == NOT_REVIEWED || every < 1 ? 0 : (term - 1) / every;
        }

        boolean hasReview(int r) {
            return r >= 1 && r <= reviews();
        }

        int reviewMonth(int r) {
            return start + r * every;
        }

        boolean wasTold(int place) {
            return isToldIn(place, NEVER - 1);
        }

        boolean isToldIn(int place, int known) {
            return place >= 0 && place < toldFrom.length && toldFrom[place] <= known;
        }

        /** What was told at a place; 0 if nothing was. */
        int toldAt(int place) {
            return place >= 0 && place < told.length ? told[place] : 0;
        }

        void tell(int place, int value, int from) {
            if (place >= 0 && place < told.length && place < toldFrom.length) {
                told[place] = value;
                toldFrom[place] = from;
            }
        }

        void drop(int place) {
            tell(place, 0, NEVER);
        }
    }

    /** Goes through the REVIEWS of a LEASE, one behind the other, as KNOWN in one MONTH. */
    static final class Walk {
        /** Filled once a walk, so that no REVIEW searches for the MONTHS next to its own. */
        final int[] indexRow = new int[MONTHS];
        int known;
        int reviewsDone;
        int rent;
        int wanted;
        int least;
        int most;

        void begin(Lease lease, Values values, int knownIn) {
            known = knownIn;
            reviewsDone = 0;
            rent = lease.toldRent;
            wanted = NONE;
            least = lease.toldRent;
            most = lease.toldRent;
            if (lease.by == BY_INDEX) {
                knowIndex(values, knownIn);
            }
        }

        void knowIndex(Values values, int knownIn) {
            values.fillIndex(indexRow, knownIn);
        }

        /** The INDEX of a MONTH; 0 if there is none. */
        int indexOf(int month) {
            return month >= 0 && month < indexRow.length ? indexRow[month] : 0;
        }

        /** Goes on through the REVIEWS up to a MONTH. */
        void goTo(Lease lease, int month) {
            int reviews = lease.reviews();
            for (int r = reviewsDone + 1; r <= reviews && lease.reviewMonth(r) <= month; r++) {
                reviewsDone = r;
                wanted = wantedBy(lease, r);
                least = thousandths(least, 1000 - lease.overall.floor);
                most = Math.min(thousandths(most, 1000 + lease.overall.cap), MOST_RENT);
                if (wanted != NONE) {
                    rent = held(lease);
                }
            }
        }

        /** DUE of a MONTH that is not ahead of the one asked for last. */
        int dueIn(Lease lease, int month) {
            goTo(lease, month);
            return lease.isFree(month) ? 0 : rent;
        }

        /** DUE of all MONTHS from START on below one, together. */
        int dueBelow(Lease lease, int below) {
            int together = 0;
            for (int month = lease.start; month < below; month++) {
                goTo(lease, month);
                together += lease.isFree(month) ? 0 : rent;
            }
            return together;
        }

        /** Of an amount so many thousandths, cut. */
        private static int thousandths(long amount, int howMany) {
            return (int) (amount * howMany / 1000);
        }

        private int wantedBy(Lease lease, int r) {
            switch (lease.by) {
                case BY_INDEX:
                    return wantedByIndex(lease, r);
                case BY_MARKET:
                    return lease.isToldIn(r, known) ? lease.toldAt(r) : NONE;
                case BY_TURNOVER:
                    return wantedByTurnover(lease, r);
                case BY_STEP:
                    return thousandths(rent, 1000 + lease.amount);
                default:
                    return NONE;
            }
        }

        private int wantedByIndex(Lease lease, int r) {
            long then = indexOf(lease.reviewMonth(r) - lease.amount);
            int first = indexOf(lease.start - lease.amount);
            if (then < 1 || first < 1) {
                return NONE;
            }
            return (int) (lease.toldRent * then / first);
        }

        private int wantedByTurnover(Lease lease, int r) {
            long together = 0;
            for (int place = (r - 1) * lease.every; place < r * lease.every; place++) {
                if (!lease.isToldIn(place, known)) {
                    return NONE;
                }
                together += lease.toldAt(place);
            }
            if (lease.every < 1) {
                return NONE;
            }
            long share = together * lease.amount / 1000 / lease.every;
            return Math.max((int) share, lease.toldRent);
        }

        private int held(Lease lease) {
            int held = wanted;
            if (lease.collar.told) {
                held = Math.max(held, thousandths(rent, 1000 - lease.collar.floor));
                held = Math.min(held, thousandths(rent, 1000 + lease.collar.cap));
            }
            if (lease.overall.told) {
                held = Math.min(Math.max(held, least), most);
            }
            if (lease.upward) {
                held = Math.max(held, rent);
            }
            return Math.min(Math.max(held, 1), MOST_RENT);
        }
    }

    /** The SPREADS of a LEASE, one MONTH behind the other. */
    static final class Spreads {
        int latest;
        int together;

        /** From START to a MONTH: the SPREAD of that one, and all of them together. */
        void goTo(Lease lease, Book book, Walk walk, int last) {
            int due = 0;
            latest = 0;
            together = 0;
            for (int month = lease.start; month <= last; month++) {
                int end = lease.endKnownIn(month);
                if (month == lease.start || book.hasNews(month)) {
                    walk.begin(lease, book.values, month);
                    due = walk.dueBelow(lease, end);
                }
                latest = month < end ? (due - together) / (end - month) : 0;
                together += latest;
            }
        }
    }

    /** The latest acts that undo() can take back. */
    static final class Acts {
        private final int[] kinds = new int[MOST_KEPT];
        private final int[] leases = new int[MOST_KEPT];
        private final int[] places = new int[MOST_KEPT];
        int count;

        void clear() {
            count = 0;
        }

        /** The place of a pass() is how many MONTHS went by. */
        void keep(int kind, int lease, int place) {
            if (count >= MOST_KEPT) {
                forgetFirst();
            }
            if (count >= 0 && count < kinds.length && count < leases.length
                    && count < places.length) {
                kinds[count] = kind;
                leases[count] = lease;
                places[count] = place;
                count++;
            }
        }

        int latestKind() {
            return latestOf(kinds);
        }

        int latestLease() {
            return latestOf(leases);
        }

        int latestPlace() {
            return latestOf(places);
        }

        void dropLatest() {
            if (count > 0) {
                count--;
            }
        }

        private int latestOf(int[] row) {
            return count > 0 && count <= row.length ? row[count - 1] : NONE;
        }

        private void forgetFirst() {
            for (int i = 1; i < MOST_KEPT; i++) {
                kinds[i - 1] = kinds[i];
                leases[i - 1] = leases[i];
                places[i - 1] = places[i];
            }
            count = MOST_KEPT - 1;
        }
    }
}
