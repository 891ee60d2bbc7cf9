/**
 * The sentences of the document that bound the tape, a TEXT and its TOKENS (Terms, Promises 1 to 5):
 * for each the last that is taken and the first that is refused.
 */
public final class TextBoundariesTest {
    private static final Check check = new Check();
    private static final int NONE = RentReview.NONE;
    private static final String RATE = "rate 0;";
    private static final String LEASE = "rate 0;lease 0 9 1 1 0;";

    public static void main(String[] args) {
        blanks();
        words();
        eachLetterOfAWord();
        numbers();
        theSign();
        bytesAbove127();
        numbersOfTheRate();
        numbersOfIndexLines();
        numbersOfLeases();
        numbersOfParts();
        monthOfBreak();
        theSmallestAndTheLargestAreKept();
        indexLines();
        monthsOnce();
        leases();
        partsOnce();
        partsAreNotNeeded();
        whatCanNotCome();
        theEnd();
        theFirstAlongTheText();
        theFirstInTheList();
        atMost600Bytes();
        tokensAreReadWhole();
        moreThan600WithAFaultAhead();
        newObject();
        feedHighestFirst();
        feedFull();
        endOfTheTape();
        emptyTape();
        textEmptiesTheTape();
        allStays();
        newText();
        nothingOfAnOlderText();
        faultOfTheLatest();
        check.finish();
    }

    // ---- how a text is looked at ----

    private static String shown(String text) {
        return text.length() > 70 ? ".." + text.substring(text.length() - 70) : text;
    }

    private static RentReview taken(String sentence, String text, int leases) {
        RentReview x = new RentReview();
        check.due(sentence + ": text() of " + shown(text), Check.tell(x, text), leases);
        check.due(sentence + ": fault() of " + shown(text), x.fault(), 0);
        check.due(sentence + ": LEASES of " + shown(text), x.now(2), leases);
        return x;
    }

    private static void refused(String sentence, String text, int place, int kind) {
        RentReview x = Check.deskOf("rate 321;lease 0 1 1 1 0;");
        check.due(sentence + ": text() of " + shown(text), Check.tell(x, text), -1 - place);
        check.due(sentence + ": fault() of " + shown(text), x.fault(), kind);
        check.due(sentence + ": R stays behind " + shown(text), x.now(1), 321);
        check.due(sentence + ": LEASES stay behind " + shown(text), x.now(2), 1);
    }

    /** A NUMBER that stands between two texts: the bounds are taken, what is next to them is not. */
    private static void bounds(String sentence, String before, int least, int most, String behind) {
        int leases = before.contains("lease") ? 1 : 0;
        taken(sentence, before + least + behind, leases);
        taken(sentence, before + most + behind, leases);
        if (least > 0) {
            refused(sentence, before + (least - 1) + behind, before.length(), 2);
            refused(sentence, before + "0" + behind, before.length(), 2);
        }
        // A NUMBER of six digits is no TOKEN.
        refused(sentence, before + (most + 1) + behind, before.length(), most + 1 > 99999 ? 1 : 2);
        if (most < 99999) {
            refused(sentence, before + 99999 + behind, before.length(), 2);
        }
        refused(sentence, before + 100000 + behind, before.length(), 1);
        refused(sentence, before + "x" + behind, before.length(), 1);
        refused(sentence, before + ";", before.length(), 1);
    }

    // ---- TOKENS ----

    private static void blanks() {
        String sentence = "blanks (32, 10) between them or not";
        taken(sentence, "rate 0;lease 0 9 1 1 0;by index 0;upward;", 1);
        taken(sentence, "\nrate\n0\n;\nlease\n0\n9\n1\n1\n0\n;\nby\nindex\n0\n;\nupward\n;\n", 1);
        taken(sentence, "   rate   0 \n ; lease 0  9 1 \n\n1 0 ;by  index 0 ; upward ; ", 1);
        for (int sign : new int[] {0, 1, 9, 11, 12, 13, 31, 33, 127, 128 + 32, 128 + 10, 255}) {
            refused(sentence + ", not " + sign, "rate" + (char) sign + "0;", 4, 1);
            refused(sentence + ", not " + sign, RATE + (char) sign, 7, 1);
        }
        refused(sentence, "rate0;", 0, 1);
        refused(sentence, LEASE + "by index0;", 26, 1);
    }

    private static void words() {
        String sentence = "WORDS: small letters";
        // What is a letter makes another WORD of 'rate', what is none ends it.
        refused(sentence, "ratea 0;", 0, 1);
        refused(sentence, "ratez 0;", 0, 1);
        refused(sentence, "rate` 0;", 4, 1);
        refused(sentence, "rate{ 0;", 4, 1);
        refused(sentence, "rateA 0;", 4, 1);
        refused(sentence, "rateZ 0;", 4, 1);
        refused(sentence, "RATE 0;", 0, 1);
        refused(sentence, "rat e 0;", 0, 1);
        refused(sentence, "r 0;", 0, 1);
        String goesOn = "goes on as long as small letters and digits do";
        refused(goesOn, "rate00;", 0, 1);
        refused(goesOn, "rate9;", 0, 1);
        refused(goesOn, "0rate 0;", 0, 1);
        refused(goesOn, "rate 0a;", 5, 1);
        refused(goesOn, "rate 0z;", 5, 1);
        refused(goesOn, "rate 12a4;", 5, 1);
        refused(goesOn, "rate a1;", 5, 1);
        refused(goesOn, RATE + "lease 0 9 1 1 0lease", 21, 1);
    }

    /** One letter of a WORD changed, left out or put behind it, and it is another. */
    private static void eachLetterOfAWord() {
        String sentence = "WORDS, letter by letter";
        String whole = "rate 0;index 1 2 3;lease 0 9 5 6 0;collar 1 2;overall 3 4;upward;break 5;by ";
        String[] texts = {whole + "index 8;", whole + "market;", whole + "turnover 8;", whole + "step 8;"};
        for (String text : texts) {
            taken(sentence, text, 1);
            for (int at = 0; at < text.length(); at++) {
                if (!Character.isLetter(text.charAt(at))) {
                    continue;
                }
                int first = at;
                while (first > 0 && Character.isLetter(text.charAt(first - 1))) {
                    first--;
                }
                char other = text.charAt(at) == 'z' ? 'a' : (char) (text.charAt(at) + 1);
                refused(sentence, text.substring(0, at) + other + text.substring(at + 1), first, 1);
                refused(sentence, text.substring(0, at) + "x" + text.substring(at), first, 1);
                refused(sentence, text.substring(0, at) + text.substring(at + 1), first, 1);
            }
        }
    }

    private static void numbers() {
        String sentence = "NUMBERS: 1 to 5 digits";
        check.due(sentence, taken(sentence, "rate 5;", 0).now(1), 5);
        check.due(sentence, taken(sentence, "rate 00005;", 0).now(1), 5);
        check.due(sentence, taken(sentence, "rate 00500;", 0).now(1), 500);
        check.due(sentence, taken(sentence, "rate 189;", 0).now(1), 189);
        refused(sentence, "rate 000005;", 5, 1);
        refused(sentence, "rate 000500;", 5, 1);
        refused(sentence, "rate 000000;", 5, 1);
        refused(sentence, "rate ;", 5, 1);
        // The signs next to '0' and '9' are no digits.
        refused(sentence, "rate 5/;", 6, 1);
        refused(sentence, "rate 5:;", 6, 1);
        refused(sentence, "rate -5;", 5, 1);
        refused(sentence, "rate +5;", 5, 1);
        refused(sentence, "rate 5.0;", 6, 1);
        // So large that an int, a long comes round to 0 and to 5.
        refused(sentence, "rate 4294967296;", 5, 1);
        refused(sentence, "rate 4294967301;", 5, 1);
        refused(sentence, "rate 18446744073709551621;", 5, 1);
        refused(sentence, "rate " + "0".repeat(590) + "5;", 5, 1);
    }

    private static void theSign() {
        String sentence = "the sign ;";
        refused(sentence, "rate 0:", 6, 1);
        refused(sentence, "rate 0<", 6, 1);
        refused(sentence, "rate 0,", 6, 1);
        refused(sentence, "rate 0" + (char) (';' + 128), 6, 1);
        refused(sentence, "rate 0;;", 7, 1);
        refused(sentence, ";rate 0;", 0, 1);
    }

    private static void bytesAbove127() {
        String sentence = "what is not as told is no TOKEN";
        for (int sign = 128; sign < 256; sign++) {
            refused(sentence, (char) sign + "rate 0;", 0, 1);
            refused(sentence, "rat" + (char) sign + " 0;", 0, 1);
            refused(sentence, "rate 0;" + (char) sign, 7, 1);
        }
    }

    // ---- bounds of the NUMBERS ----

    private static void numbersOfTheRate() {
        bounds("R 0 to 500", "rate ", 0, 500, ";");
    }

    private static void numbersOfIndexLines() {
        bounds("index MONTH 0 to 239", "rate 0;index ", 0, 239, " 1 0;");
        bounds("VALUE 1 to 9999", "rate 0;index 0 ", 1, 9999, " 0;");
        bounds("KNOWN 0 to 239", "rate 0;index 0 1 ", 0, 239, ";");
    }

    private static void numbersOfLeases() {
        bounds("START 0 to 119", "rate 0;lease ", 0, 119, " 1 1 1 0;");
        bounds("TERM 1 to 120", "rate 0;lease 0 ", 1, 120, " 1 1 0;");
        bounds("TERM 1 to 120, from the last START on", "rate 0;lease 119 ", 1, 120, " 1 1 0;");
        bounds("RENT 1 to 99999", "rate 0;lease 0 1 ", 1, 99999, " 1 0;");
        bounds("EVERY 1 to 60", "rate 0;lease 0 1 1 ", 1, 60, " 0;");
        bounds("FREE 0 to TERM", "rate 0;lease 0 1 1 1 ", 0, 1, ";");
        bounds("FREE 0 to TERM", "rate 0;lease 0 7 1 1 ", 0, 7, ";");
        bounds("FREE 0 to TERM", "rate 0;lease 119 120 1 1 ", 0, 120, ";");
    }

    private static void numbersOfParts() {
        bounds("LAG (0 to 12)", LEASE + "by index ", 0, 12, ";");
        bounds("SHARE (0 to 999)", LEASE + "by turnover ", 0, 999, ";");
        bounds("STEP (0 to 999)", LEASE + "by step ", 0, 999, ";");
        for (String part : new String[] {"collar", "overall"}) {
            bounds(part + " FLOOR 0 to 999", LEASE + part + " ", 0, 999, " 0;");
            bounds(part + " CAP 0 to 999", LEASE + part + " 0 ", 0, 999, ";");
        }
    }

    private static void monthOfBreak() {
        String sentence = "'break' MONTH (above START, below START and TERM)";
        bounds(sentence, "rate 0;lease 5 4 1 1 0;break ", 6, 8, ";");
        bounds(sentence, "rate 0;lease 0 2 1 1 0;break ", 1, 1, ";");
        bounds(sentence, "rate 0;lease 119 120 1 1 0;break ", 120, 238, ";");
        bounds(sentence, "rate 0;lease 119 2 1 1 0;break ", 120, 120, ";");
        // A LEASE of one MONTH can have none.
        refused(sentence, "rate 0;lease 5 1 1 1 0;break 5;", 29, 2);
        refused(sentence, "rate 0;lease 5 1 1 1 0;break 6;", 29, 2);
        refused(sentence, "rate 0;lease 0 1 1 1 0;break 0;", 29, 2);
    }

    private static void theSmallestAndTheLargestAreKept() {
        RentReview least = taken("the least of each NUMBER", "rate 0;index 0 1 0;lease 0 1 1 1 0;", 1);
        check.due("R 0", least.now(1), 0);
        check.due("MONTH 0, VALUE 1, KNOWN 0", least.index(0, 0), 1);
        keptLease(least, new int[] {0, 1, 1, 1, 0});
        RentReview most = taken("the most of each NUMBER", "rate 500;index 239 9999 239;lease 119 120 99999 60 120;", 1);
        check.due("R 500", most.now(1), 500);
        check.due("MONTH 239, VALUE 9999, KNOWN 239", most.index(239, 239), 9999);
        check.due("KNOWN 239, not ahead of it", most.index(239, 238), NONE);
        keptLease(most, new int[] {119, 120, 99999, 60, 120});
    }

    private static void keptLease(RentReview x, int[] want) {
        for (int what = 0; what < want.length; what++) {
            check.due("the NUMBER " + what + " of a LEASE", Check.lease(x, 0, what), want[what]);
        }
    }

    // ---- LINES and PARTS ----

    /** So many 'index' LINES, from a MONTH of three digits on so that they are all as long. */
    private static String lines(int howMany) {
        StringBuilder lines = new StringBuilder(RATE);
        for (int i = 0; i < howMany; i++) {
            lines.append("index ").append(100 + i).append(" 7 0;");
        }
        return lines.toString();
    }

    private static void indexLines() {
        String sentence = "20 'index' LINES at most";
        check.due(sentence, taken(sentence, lines(0), 0).now(3), 0);
        check.due(sentence, taken(sentence, lines(1), 0).now(3), 1);
        check.due(sentence, taken(sentence, lines(19), 0).now(3), 19);
        RentReview full = taken(sentence, lines(20), 0);
        check.due(sentence, full.now(3), 20);
        check.due(sentence + ": the first", full.index(100, 0), 7);
        check.due(sentence + ": the last", full.index(119, 0), 7);
        int behind = lines(20).length();
        refused(sentence, lines(21), behind, 3);
        refused(sentence, lines(22), behind, 3);
        refused(sentence, lines(20) + "index", behind, 3);
        refused(sentence, lines(20) + "index 100 7 0;", behind, 3);
        refused(sentence, lines(20) + "index %", behind, 3);
        refused(sentence, lines(20) + "indexes", behind, 1);
        // The WORD of 'by' is no LINE.
        taken(sentence, lines(20) + "lease 0 9 1 1 0;by index 0;lease 0 9 1 1 0;by index 0;", 2);
    }

    private static void monthsOnce() {
        String sentence = "each MONTH once";
        for (int month : new int[] {0, 1, 238, 239}) {
            String first = RATE + "index " + month + " 7 0;";
            refused(sentence, first + "index " + month + " 8 9;", first.length() + 6, 2);
            refused(sentence, first + "index " + month + " 7 0;", first.length() + 6, 2);
            String other = first + "index 120 7 0;";
            refused(sentence, other + "index 0" + month + " 0 0;", other.length() + 6, 2);
            refused(sentence, first + "index " + month + "%", first.length() + 6, 2);
        }
        String most = lines(19);
        refused(sentence, most + "index 100 7 0;", most.length() + 6, 2);
        refused(sentence, most + "index 118 7 0;", most.length() + 6, 2);
        taken(sentence, most + "index 119 7 0;", 0);
        taken(sentence, most + "index 99 7 0;", 0);
        RentReview again = Check.deskOf(RATE + "index 5 7 0;");
        check.due(sentence + ": a new TEXT tells it anew", Check.tell(again, RATE + "index 5 8 0;"), 0);
        check.due(sentence + ": a new TEXT tells it anew", again.index(5, 0), 8);
    }

    private static String leases(int howMany) {
        StringBuilder leases = new StringBuilder(RATE);
        for (int i = 0; i < howMany; i++) {
            leases.append("lease 0 2 ").append(1 + i).append(" 1 0;upward;");
        }
        return leases.toString();
    }

    private static void leases() {
        String sentence = "6 LEASES at most, numbered from 0";
        taken(sentence, leases(0), 0);
        taken(sentence, leases(1), 1);
        taken(sentence, leases(5), 5);
        RentReview full = taken(sentence, leases(6), 6);
        for (int lease = 0; lease < 6; lease++) {
            check.due(sentence, Check.lease(full, lease, 2), 1 + lease);
        }
        check.due(sentence, Check.lease(full, 6, 2), Check.THROWN);
        check.due(sentence, Check.lease(full, -1, 2), Check.THROWN);
        check.due(sentence, Check.lease(taken(sentence, leases(5), 5), 5, 2), Check.THROWN);
        int behind = leases(6).length();
        refused(sentence, leases(7), behind, 3);
        refused(sentence, leases(8), behind, 3);
        refused(sentence, leases(6) + "lease", behind, 3);
        refused(sentence, leases(6) + "lease 120 0 0 0 0;", behind, 3);
        refused(sentence, leases(6) + "break 1;lease", behind + 8, 3);
        taken(sentence, leases(6) + "break 1;", 6);
    }

    private static void partsOnce() {
        String sentence = "each WORD once a LEASE at most";
        String[] parts = {"by index 0;", "by market;", "by turnover 0;", "by step 0;", "collar 0 0;", "overall 0 0;",
            "upward;", "break 1;"};
        for (String part : parts) {
            String once = LEASE + part;
            taken(sentence, once, 1);
            refused(sentence, once + part, once.length(), 4);
            refused(sentence, once + part.replace(";", " %"), once.length(), 4);
            taken(sentence + ", again in the next", once + "lease 0 2 1 1 0;" + part, 2);
            refused(sentence, once + "lease 0 2 1 1 0;" + part + part, once.length() + 16 + part.length(), 4);
        }
        for (int i = 0; i < 4; i++) {
            for (int j = 0; j < 4; j++) {
                String once = LEASE + parts[i];
                refused(sentence, once + parts[j], once.length(), 4);
            }
        }
        String all = LEASE + "break 1;upward;overall 0 0;collar 0 0;by market;";
        taken(sentence, all, 1);
        for (String part : parts) {
            refused(sentence, all + part, all.length(), 4);
        }
    }

    private static void partsAreNotNeeded() {
        String sentence = "{ PART ; } may be empty";
        RentReview x = taken(sentence, "rate 0;lease 3 9 7 2 0;lease 4 9 7 2 0;", 2);
        check.due(sentence + ": not reviewed", Check.lease(x, 0, 5), 0);
        check.due(sentence + ": no REVIEWS", Check.lease(x, 0, 7), 0);
        check.due(sentence + ": no break", x.breaks(0), NONE);
        check.due(sentence + ": START of the next", Check.lease(x, 1, 0), 4);
    }

    // ---- FAULTS ----

    private static void whatCanNotCome() {
        String sentence = "1: one that can't come (at it)";
        refused(sentence, "0;", 0, 1);
        refused(sentence, "lease 0 9 1 1 0;", 0, 1);
        refused(sentence, "index 0 1 0;", 0, 1);
        refused(sentence, "rate rate", 5, 1);
        refused(sentence, "rate 0 1;", 7, 1);
        refused(sentence, RATE + RATE, 7, 1);
        refused(sentence, RATE + "0", 7, 1);
        refused(sentence, RATE + "index ; 1 0;", 13, 1);
        refused(sentence, RATE + "index 1 index", 15, 1);
        refused(sentence, RATE + "index 1 1 1 1;", 19, 1);
        refused(sentence, RATE + "upward;", 7, 1);
        refused(sentence, RATE + "break 1;", 7, 1);
        refused(sentence, LEASE + "index 0 1 0;", 23, 1);
        refused(sentence, LEASE + "upward;index 0 1 0;", 30, 1);
        refused(sentence, LEASE + "rate 0;", 23, 1);
        refused(sentence, RATE + "lease 0 9 1 1 0 0;", 23, 1);
        refused(sentence, LEASE + "by 0;", 26, 1);
        refused(sentence, LEASE + "by;", 25, 1);
        refused(sentence, LEASE + "by by", 26, 1);
        refused(sentence, LEASE + "by upward;", 26, 1);
        refused(sentence, LEASE + "by index market;", 32, 1);
        refused(sentence, LEASE + "by index 0 0;", 34, 1);
        refused(sentence, LEASE + "by market 0;", 33, 1);
        refused(sentence, LEASE + "by turnover step;", 35, 1);
        refused(sentence, LEASE + "collar 0 0 0;", 34, 1);
        refused(sentence, LEASE + "overall 0;", 32, 1);
        refused(sentence, LEASE + "upward upward;", 30, 1);
        refused(sentence, LEASE + "break 1 1;", 31, 1);
        refused(sentence, LEASE + "step 0;", 23, 1);
    }

    /** Ahead of its end a text has FAULT 1 at the end, wherever between two TOKENS it is cut. */
    private static void theEnd() {
        String sentence = "1: the end: how many bytes there are";
        String whole = "rate 0 ; index 1 2 3 ; lease 4 9 5 6 0 ; by index 8 ; collar 1 2 ; overall 3 4 ; upward ; break 5 ;";
        for (int cut = 0; cut < whole.length(); cut++) {
            boolean betweenTokens = whole.charAt(cut) == ' ';
            boolean isText = cut > 0 && whole.substring(0, cut).trim().endsWith(";");
            if (betweenTokens && !isText) {
                refused(sentence, whole.substring(0, cut), cut, 1);
                refused(sentence, whole.substring(0, cut) + " \n ", cut + 3, 1);
            } else if (betweenTokens) {
                taken(sentence, whole.substring(0, cut), cut > 22 ? 1 : 0);
            }
        }
        taken(sentence, whole, 1);
    }

    private static void theFirstAlongTheText() {
        String sentence = "FAULTS, the first along the text";
        refused(sentence, "rate 501;rate", 5, 2);
        refused(sentence, "rate 501%", 5, 2);
        refused(sentence, "rate 501", 5, 2);
        refused(sentence, "rate % 501;", 5, 1);
        refused(sentence, RATE + "index 240 0 240;", 13, 2);
        refused(sentence, RATE + "index 1 0 240;", 15, 2);
        refused(sentence, LEASE + "upward;upward;by step 1000;", 30, 4);
        refused(sentence, LEASE + "by step 1000;by step 0;", 31, 2);
        refused(sentence, LEASE + "upward;%;upward;", 30, 1);
        int behind = leases(6).length();
        refused(sentence, leases(6) + "upward;lease", behind, 4);
        refused(sentence, leases(6) + "lease upward", behind, 3);
        refused(sentence, leases(6) + "break 9;lease", behind + 6, 2);
    }

    private static void theFirstInTheList() {
        String sentence = "of one TOKEN the one that stands first in this list";
        // 1 ahead of 2: no TOKEN, or no NUMBER can come, and it is too large.
        refused(sentence, "rate 999999;", 5, 1);
        refused(sentence, RATE + "99999", 7, 1);
        refused(sentence, LEASE + "by 99999;", 26, 1);
        refused(sentence, RATE + "index 7 1 0;index 000007 1 0;", 25, 1);
        // 1 ahead of 3: no LINE can come, and it would be one more than told.
        int behindLines = lines(20).length();
        refused(sentence, lines(20) + "lease 0 9 1 1 0;index", behindLines + 16, 1);
        int behindLeases = leases(6).length();
        refused(sentence, leases(6) + "by lease", behindLeases + 3, 1);
        refused(sentence, leases(5) + "lease 0 9 1 1 lease", leases(5).length() + 14, 1);
        // 1 ahead of 4: no PART can come, and it was told.
        refused(sentence, LEASE + "upward;by upward;", 33, 1);
        refused(sentence, LEASE + "upward upward;", 30, 1);
        refused(sentence, LEASE + "by market;collar by", 40, 1);
        refused(sentence, RATE + "lease 0 9 1 1 0;upward;lease upward", 36, 1);
    }

    // ---- 600 bytes ----

    private static String filled(String text, int bytes) {
        return text + " ".repeat(bytes - text.length());
    }

    private static void atMost600Bytes() {
        String sentence = "A TEXT has at most 600 bytes";
        taken(sentence, filled(LEASE, 599), 1);
        taken(sentence, filled(LEASE, 600), 1);
        taken(sentence, " ".repeat(600 - LEASE.length()) + LEASE, 1);
        for (int bytes : new int[] {601, 602, 620, 639, 640}) {
            refused(sentence, filled(LEASE, bytes), 600, 1);
            refused(sentence, " ".repeat(bytes - LEASE.length()) + LEASE, 600, 1);
            refused(sentence, filled(filled(LEASE, 600) + ";", bytes), 600, 1);
        }
        refused(sentence, " ".repeat(601 - LEASE.length()) + LEASE, 600, 1);
        refused(sentence, filled(LEASE, 600) + "u", 600, 1);
        refused(sentence, filled(LEASE, 600) + "%", 600, 1);
        refused(sentence, filled(LEASE, 600) + "upward;", 600, 1);
        // At the end of 600 bytes and behind them the place is the same.
        refused(sentence, filled("rate 0", 599), 599, 1);
        refused(sentence, filled("rate 0", 600), 600, 1);
        refused(sentence, filled("rate 0", 601), 600, 1);
        refused(sentence, filled("rate 0", 600) + ";", 600, 1);
        refused(sentence, filled("", 640), 600, 1);
        refused(sentence, filled("", 601), 600, 1);
        refused(sentence, filled("", 600), 600, 1);
        // A tape of so many TOKENS as there are bytes.
        refused(sentence, ";".repeat(640), 0, 1);
        refused(sentence, filled("rate 0;", 7) + ";".repeat(633), 7, 1);
    }

    private static void tokensAreReadWhole() {
        String sentence = "TOKENS that begin ahead of 600 are read whole";
        String before = filled("rate", 599);
        refused(sentence, before + "5;", 600, 1);
        refused(sentence, before + "50", 600, 1);
        refused(sentence, before + "500", 600, 1);
        refused(sentence, before + "501", 599, 2);
        refused(sentence, before + "00500", 600, 1);
        refused(sentence, before + "000500", 599, 1);
        refused(sentence, before + "5a", 599, 1);
        refused(sentence, before + "5%", 600, 1);
        refused(sentence, before + "5".repeat(41), 599, 1);
        refused(sentence, before + "a".repeat(41), 599, 1);
        String parts = filled(LEASE, 599);
        refused(sentence, parts + "upward;", 600, 1);
        refused(sentence, parts + "upwards", 599, 1);
        refused(sentence, parts + "upwar", 599, 1);
        refused(sentence, filled(LEASE + "upward;", 599) + "upward", 599, 4);
        refused(sentence, filled(LEASE + "upward;", 599) + "upwards", 599, 1);
        refused(sentence, filled(leases(6), 599) + "lease", 599, 3);
        refused(sentence, filled(leases(6), 600) + "lease", 600, 1);
        refused(sentence, filled(lines(20), 599) + "index", 599, 3);
        refused(sentence, filled(LEASE + "by index", 595) + "00012", 600, 1);
        refused(sentence, filled(LEASE + "by index", 595) + "000012", 595, 1);
        refused(sentence, filled(LEASE + "by index", 595) + "00013;", 595, 2);
    }

    private static void moreThan600WithAFaultAhead() {
        String sentence = "600, if no FAULT is ahead";
        refused(sentence, filled("rate 501;", 640), 5, 2);
        refused(sentence, filled("rate %", 640), 5, 1);
        refused(sentence, filled(LEASE + "upward;upward;", 640), 30, 4);
        refused(sentence, filled(LEASE, 599) + "%" + " ".repeat(40), 599, 1);
        refused(sentence, filled(LEASE, 599) + ";" + " ".repeat(40), 599, 1);
        refused(sentence, filled(LEASE, 599) + "7" + " ".repeat(40), 599, 1);
    }

    // ---- the tape and the calls ----

    private static void newObject() {
        RentReview x = new RentReview();
        check.due("1: an empty tape", x.now(5), 0);
        check.due("1: an empty tape has no first byte", x.end(1), false);
        check.due("1: R 0", x.now(1), 0);
        check.due("1: no LEASES", x.now(2), 0);
        check.due("1: no LEASES", Check.lease(x, 0, 0), Check.THROWN);
        check.due("1: MONTH 0", x.now(0), 0);
        check.due("1: no VALUES", x.now(3), 0);
        check.due("1: nothing can be undone", x.now(4), 0);
        check.due("1: nothing can be undone", x.undo(), NONE);
        check.due("1: ahead of any text()", x.fault(), 0);
        check.due("1: a VALUE can be told", x.publish(0, 1), 1);
        check.due("1: MONTHS can go by", x.pass(99), 99);
        check.due("1: another has its own", new RentReview().now(0), 0);
    }

    private static void feedHighestFirst() {
        RentReview x = new RentReview();
        // Each number's bytes are told by where in it the FAULT stands.
        check.due("2: twenty bytes", x.feed(0x72617465, 0x20303b20, 0x20202020, 0x20202020, 0x20202025), 20);
        check.due("2: the lowest is the last", x.text(), -1 - 19);
        x.feed(0x72617465, 0x20303b20, 0x20202020, 0x20202020, 0x25202020);
        check.due("2: the highest is the first", x.text(), -1 - 16);
        x.feed(0x72617465, 0x20303b20, 0x20202020, 0x25202020, 0x20202020);
        check.due("2: the fourth number", x.text(), -1 - 12);
        x.feed(0x72617465, 0x20303b20, 0x20202520, 0x20202020, 0x20202020);
        check.due("2: the third number", x.text(), -1 - 10);
        x.feed(0x72617465, 0x20313233, 0x3b202020, 0x20202020, 0x20202020);
        check.due("2: a TEXT", x.text(), 0);
        check.due("2: its bytes in their order", x.now(1), 123);
        check.due("2: the least", x.feed(Integer.MIN_VALUE, Integer.MIN_VALUE, -1, -1, Integer.MIN_VALUE), 20);
        check.due("2: no TOKEN", x.text(), -1);
        check.due("2: the most", x.feed(Integer.MAX_VALUE, Integer.MAX_VALUE, 0, 0, Integer.MAX_VALUE), 20);
        check.due("2: no TOKEN", x.text(), -1);
        // 0x20202020, but for the highest bit.
        check.due("2: a byte above 127", x.feed(0xa0202020, 0x20202020, 0x20202020, 0x20202020, 0x20202020), 20);
        check.due("2: it is no blank", x.text(), -1);
    }

    private static void feedFull() {
        RentReview x = new RentReview();
        Check.feed(x, filled(LEASE, 600));
        check.due("2: to 620", x.feed(1, 1, 1, 1, 1), 620);
        check.due("2: to 640", x.feed(1, 1, 1, 1, 1), 640);
        check.due("2: more than 640", x.feed(1, 1, 1, 1, 1), NONE);
        check.due("2: more than 640, again", x.feed(-1, -1, -1, -1, -1), NONE);
        check.due("2: none come", x.now(5), 640);
        check.due("2: the tape is as it was", x.end(600), true);
        check.due("2: the tape is as it was", x.text(), 1);
        Check.feed(x, filled(LEASE, 600));
        x.feed(0, 0, 0, 0, 0);
        for (int bytes = 621; bytes < 640; bytes++) {
            x.end(620);
            x.feed(0, 0, 0, 0, 0);
            x.end(bytes);
            check.due("2: more than 640 from " + bytes, x.feed(0, 0, 0, 0, 0), NONE);
            check.due("2: none come", x.now(5), bytes);
        }
        x.end(620);
        check.due("2: no more than 640", x.feed(0, 0, 0, 0, 0), 640);
        x.end(619);
        check.due("2: to 639", x.feed(0, 0, 0, 0, 0), 639);
        check.due("2: from 639", x.feed(0, 0, 0, 0, 0), NONE);
        x.end(0);
        check.due("2: an empty tape again", x.feed(0, 0, 0, 0, 0), 20);
    }

    private static void endOfTheTape() {
        RentReview x = new RentReview();
        check.due("3: end(0) of an empty tape", x.end(0), true);
        check.due("3: end(1) of an empty tape", x.end(1), false);
        check.due("3: end(-1) of an empty tape", x.end(-1), false);
        Check.feed(x, "rate 12;lease 0 1 1 1 0;");
        for (int n : new int[] {25, 26, 640, 641, Integer.MAX_VALUE, -1, -2, -24, Integer.MIN_VALUE}) {
            check.due("3: end(" + n + ") of 24", x.end(n), false);
            check.due("3: all stays", x.now(5), 24);
        }
        check.due("3: all of it", x.end(24), true);
        check.due("3: one less", x.end(23), true);
        check.due("3: what is gone does not come back", x.end(24), false);
        check.due("3: its first bytes", x.end(8), true);
        check.due("3: now(5)", x.now(5), 8);
        check.due("3: its first bytes alone", x.text(), 0);
        check.due("3: R", x.now(1), 12);
        Check.feed(x, "rate 12;");
        check.due("3: none", x.end(0), true);
        check.due("3: none are left", x.now(5), 0);
        Check.feed(x, "rate 34;");
        check.due("3: those that come behind", x.text(), 0);
        check.due("3: R", x.now(1), 34);
        for (int i = 0; i < 32; i++) {
            x.feed(0, 0, 0, 0, 0);
        }
        check.due("3: end(641) of a full tape", x.end(641), false);
        check.due("3: end(640) of a full tape", x.end(640), true);
        check.due("3: now(5)", x.now(5), 640);
    }

    private static void emptyTape() {
        String sentence = "4: an empty tape";
        refused(sentence, "", 0, 1);
        refused(sentence + ", a blank", " ", 1, 1);
        RentReview x = new RentReview();
        check.due(sentence + " of a new object", x.text(), -1);
        check.due(sentence + " has FAULT 1", x.fault(), 1);
        check.due(sentence + ", a TEXT without LEASES", Check.tell(x, "rate 0;"), 0);
        check.due(sentence + " behind it", x.text(), -1);
        check.due(sentence + ", its FAULT", x.fault(), 1);
    }

    private static void textEmptiesTheTape() {
        RentReview x = new RentReview();
        check.due("4: a TEXT", Check.tell(x, LEASE), 1);
        check.due("4: the tape is empty then", x.now(5), 0);
        check.due("4: a FAULT", Check.tell(x, "rate 501;"), -1 - 5);
        check.due("4: the tape is empty then, even with a FAULT", x.now(5), 0);
        check.due("4: no byte of it is left", x.end(1), false);
        Check.feed(x, filled(LEASE, 600));
        x.feed(0, 0, 0, 0, 0);
        x.feed(0, 0, 0, 0, 0);
        check.due("4: a full tape", x.text(), -1 - 600);
        check.due("4: it is empty then", x.now(5), 0);
        // Shorter than the ones ahead of it: nothing of those is read.
        check.due("4: a short TEXT behind it", Check.tell(x, "rate 5;"), 0);
        check.due("4: LEASES", x.now(2), 0);
    }

    private static void allStays() {
        String[] faults = {"", "rate 501;", "rate 1;index 6 60 0;lease 0 9 9 1 0;upward;upward;",
            "rate 1;" + "lease 0 9 9 1 0;".repeat(7), filled(LEASE, 640)};
        RentReview x = Check.deskOf("rate 9;index 5 50 2;lease 1 9 100 3 0;by market;break 8;");
        x.pass(5);
        x.market(0, 1, 200);
        x.breaks(0);
        x.publish(7, 70);
        for (String fault : faults) {
            check.due("4: a FAULT", Check.tell(x, fault) < 0, true);
            check.due("4: NOW stays", x.now(0), 5);
            check.due("4: R stays", x.now(1), 9);
            check.due("4: LEASES stay", x.now(2), 1);
            check.due("4: VALUES stay", x.now(3), 2);
            check.due("4: a VALUE stays", x.index(6, 5), 60);
            check.due("4: what can be undone stays", x.now(4), 4);
            check.due("4: the LEASE stays", Check.lease(x, 0, 2), 100);
            check.due("4: what was told of it stays", x.rent(0, 4, 5), 200);
            check.due("4: its END stays", Check.lease(x, 0, 6), 8);
        }
        check.due("4: undo() of publish()", x.undo(), 3);
        check.due("4: VALUES", x.now(3), 1);
        check.due("4: undo() of breaks()", x.undo(), 2);
        check.due("4: END", Check.lease(x, 0, 6), 10);
    }

    private static void newText() {
        RentReview x = Check.deskOf("rate 9;index 5 50 2;lease 1 9 100 3 2;by market;collar 1 2;overall 3 4;upward;break 8;"
            + "lease 0 1 1 1 0;");
        x.pass(5);
        x.market(0, 1, 200);
        x.breaks(0);
        x.publish(7, 70);
        check.due("a new TEXT", Check.tell(x, "rate 0;lease 1 9 100 3 0;by market;"), 1);
        check.due("a new TEXT: MONTH 0", x.now(0), 0);
        check.due("a new TEXT: nothing can be undone", x.now(4), 0);
        check.due("a new TEXT: nothing can be undone", x.undo(), NONE);
        check.due("a new TEXT: its R", x.now(1), 0);
        check.due("a new TEXT: its VALUES", x.now(3), 0);
        check.due("a new TEXT: no INDEX", x.index(5, 239), NONE);
        check.due("a new TEXT: its LEASES", Check.lease(x, 1, 0), Check.THROWN);
        check.due("a new TEXT: END", Check.lease(x, 0, 6), 10);
        check.due("a new TEXT: nothing told", x.rent(0, 4, 239), 100);
        check.due("a new TEXT: nothing FREE", x.billed(0, 1), 100);
        check.due("a new TEXT: no 'break'", x.breaks(0), NONE);
        check.due("a new TEXT: market()", x.market(0, 1, 700), 4);
        check.due("a new TEXT: no 'collar', no 'overall'", x.rent(0, 4, 0), 700);
        check.due("a new TEXT: no 'upward'", x.market(0, 2, 5), 7);
        check.due("a new TEXT: no 'upward'", x.rent(0, 7, 0), 5);
        check.due("a new TEXT without LEASES", Check.tell(x, "rate 7;"), 0);
        check.due("a TEXT without LEASES: rent()", x.rent(0, 4, 0), NONE);
        check.due("a TEXT without LEASES: spread()", x.spread(0, 4), Check.REFUSED);
        check.due("a TEXT without LEASES: would()", x.would(0, 0, 1), NONE);
        check.due("a TEXT without LEASES: publish()", x.publish(0, 1), 1);
    }

    /** Not of the TEXT ahead of it, not of the one ahead of that, not of one with a FAULT. */
    private static void nothingOfAnOlderText() {
        String full = "rate 9;index 5 50 0;lease 1 9 100 3 9;by step 99;collar 1 2;overall 3 4;upward;break 8;";
        String plain = "rate 0;lease 1 9 100 3 0;by market;";
        String bare = "rate 0;lease 1 9 100 3 0;";
        String[][] runs = {{full, plain}, {full, bare, plain}, {full, full, plain}, {full, full, full, plain},
            {bare, full + "%", plain}, {full, full + "upward;", full + "break", plain}, {full, full, bare, bare, plain}};
        for (String[] texts : runs) {
            RentReview x = new RentReview();
            for (String text : texts) {
                Check.tell(x, text);
                x.publish(200, 5);
                x.breaks(0);
                x.market(0, 1, 99999);
                x.market(0, 2, 99999);
            }
            check.due("a new TEXT: no 'collar', no 'overall' of an older one", x.rent(0, 4, 0), 99999);
            check.due("a new TEXT: no break of an older one", Check.lease(x, 0, 6), 10);
            check.due("a new TEXT: none FREE of an older one", x.billed(0, 1), 100);
            check.due("a new TEXT: no VALUE of an older one", x.now(3), 1);
            check.due("a new TEXT: no 'overall' of an older one", x.review(0, 1, 0, 3), NONE);
            x.undo();
            check.due("a new TEXT: no market of an older one", x.market(0, 2, 3), 7);
            check.due("a new TEXT: no 'upward' of an older one", x.rent(0, 7, 0), 3);
            Check.tell(x, bare);
            Check.tell(x, bare);
            check.due("a new TEXT: no 'by' of an older one", Check.lease(x, 0, 5), 0);
            check.due("a new TEXT: no REVIEWS of an older one", Check.lease(x, 0, 7), 0);
            check.due("a new TEXT: no break of an older one", x.breaks(0), NONE);
        }
    }

    private static void faultOfTheLatest() {
        RentReview x = new RentReview();
        check.due("5: ahead of any", x.fault(), 0);
        String[] texts = {"rate", "rate 501;", leases(7), LEASE + "upward;upward;"};
        for (int kind = 1; kind <= 4; kind++) {
            Check.tell(x, texts[kind - 1]);
            check.due("5: the kind", x.fault(), kind);
            check.due("5: asked again", x.fault(), kind);
        }
        x.feed(0, 0, 0, 0, 0);
        x.end(7);
        x.pass(1);
        x.undo();
        check.due("5: other calls leave it", x.fault(), 4);
        x.end(0);
        Check.tell(x, LEASE);
        check.due("5: 0 without one", x.fault(), 0);
    }
}
