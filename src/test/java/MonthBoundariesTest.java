/**
 * The sentences of the document on where a MONTH begins and ends, what is KNOWN and what is not, what
 * is cut, what is held (Terms, behind '==== 2.'): for each what is on both sides of the line it draws.
 */
public final class MonthBoundariesTest {
    private static final Check check = new Check();
    private static final int NONE = RentReview.NONE;
    private static final int REFUSED = Check.REFUSED;

    public static void main(String[] args) {
        nowIsMonth0AtFirst();
        leaseGoesFromStartToEnd();
        theFirstAndTheLastLease();
        leaseOfOneMonth();
        endOnceTheBreakIsKnown();
        breakAheadOfStart();
        reviewsBelowStartAndTerm();
        valuesOfTheText();
        whatCallsTell();
        toldInTheFirstAndTheLastMonth();
        indexBetween();
        indexWithoutOneOnEachSide();
        indexOfTheNearest();
        indexFarApart();
        rentOneReviewBehindTheOther();
        wantedByIndexOfBoth();
        wantedByIndexBelowMonth0();
        wantedByIndexCut();
        wantedByMarket();
        wantedByTurnoverOfTheMonthsAhead();
        wantedByTurnoverAtLeast();
        wantedByStep();
        collarOnBothSides();
        collarIsCut();
        overallOnBothSides();
        overallIsCutAtEachReview();
        upward();
        oneAtLeast();
        atMost999999();
        mostOfOverall();
        freeMonths();
        billedAsKnownInIt();
        truedMonthsAhead();
        truedBelowEnd();
        interestCutTowards0();
        interestOfTheMost();
        spreadCut();
        spreadOfTheMost();
        spreadBelowEnd();
        spreadAsKnownInIt();
        spreadOfSteps();
        spreadOfWhatEachCallTells();
        aheadBelowEnd();
        check.finish();
    }

    private static void goTo(RentReview x, int month) {
        while (x.now(0) < month) {
            x.pass(Math.min(99, month - x.now(0)));
        }
    }

    private static RentReview at(int month, String text) {
        RentReview x = Check.deskOf(text);
        goTo(x, month);
        return x;
    }

    // ---- MONTHS and LEASES ----

    private static void nowIsMonth0AtFirst() {
        check.due("NOW is 0 at first", new RentReview().now(0), 0);
        check.due("NOW is 0 with a TEXT", Check.deskOf("rate 0;").now(0), 0);
    }

    private static void leaseGoesFromStartToEnd() {
        String sentence = "A LEASE goes from START to its END (not that one)";
        RentReview x = Check.deskOf("rate 0;lease 10 5 100 1 0;break 13;");
        int[] rents = {NONE, 100, 100, 100, 100, 100, NONE};
        int[] spreads = {REFUSED, 100, 100, 100, 100, 100, REFUSED};
        int[] aheads = {REFUSED, 0, 0, 0, 0, 0, REFUSED};
        for (int month = 9; month <= 15; month++) {
            check.due(sentence + ": rent() of " + month, x.rent(0, month, 0), rents[month - 9]);
            check.due(sentence + ": billed() of " + month, x.billed(0, month), rents[month - 9]);
            check.due(sentence + ": spread() of " + month, x.spread(0, month), spreads[month - 9]);
            check.due(sentence + ": ahead() of " + month, x.ahead(0, month), aheads[month - 9]);
        }
        check.due(sentence + ": START and TERM", Check.lease(x, 0, 6), 15);
        x.breaks(0);
        int[] billed = {NONE, 100, 100, 100, NONE, NONE, NONE};
        int[] broken = {REFUSED, 100, 100, 100, 0, 0, REFUSED};
        for (int month = 9; month <= 15; month++) {
            // RENT goes on below START and TERM.
            check.due(sentence + ": rent() with a break, of " + month, x.rent(0, month, 0), rents[month - 9]);
            check.due(sentence + ": billed() with a break, of " + month, x.billed(0, month), billed[month - 9]);
            check.due(sentence + ": spread() with a break, of " + month, x.spread(0, month), broken[month - 9]);
            check.due(sentence + ": ahead() with a break, of " + month, x.ahead(0, month), aheads[month - 9]);
        }
        check.due(sentence + ": the MONTH of 'break'", Check.lease(x, 0, 6), 13);
    }

    private static void theFirstAndTheLastLease() {
        RentReview x = Check.deskOf("rate 0;lease 0 120 7 60 0;by step 0;lease 119 120 8 60 0;by step 0;");
        check.due("ahead of MONTH 0", x.rent(0, -1, 0), NONE);
        check.due("MONTH 0", x.rent(0, 0, 0), 7);
        check.due("MONTH 119", x.rent(0, 119, 0), 7);
        check.due("MONTH 120", x.rent(0, 120, 0), NONE);
        check.due("MONTH 118", x.billed(1, 118), NONE);
        check.due("MONTH 119 of the last START", x.billed(1, 119), 8);
        check.due("MONTH 238", x.billed(1, 238), 8);
        check.due("MONTH 239", x.billed(1, 239), NONE);
        check.due("spread() of 238", x.spread(1, 238), 8);
        check.due("spread() of 239", x.spread(1, 239), REFUSED);
        check.due("ahead() of 238", x.ahead(1, 238), 0);
        check.due("ahead() of 239", x.ahead(1, 239), REFUSED);
        check.due("END 239", Check.lease(x, 1, 6), 239);
        check.due("a REVIEW at 179", x.review(1, 1, 0, 0), 179);
        check.due("no REVIEW at 239", x.review(1, 2, 0, 0), REFUSED);
    }

    private static void leaseOfOneMonth() {
        RentReview x = Check.deskOf("rate 0;lease 4 1 90 1 0;by step 9;lease 4 1 90 1 1;by market;");
        check.due("a LEASE of one MONTH: END", Check.lease(x, 0, 6), 5);
        check.due("a LEASE of one MONTH: no REVIEWS", Check.lease(x, 0, 7), 0);
        check.due("a LEASE of one MONTH: billed()", x.billed(0, 4), 90);
        check.due("a LEASE of one MONTH: spread()", x.spread(0, 4), 90);
        check.due("a LEASE of one MONTH: ahead()", x.ahead(0, 4), 0);
        check.due("a LEASE of one MONTH: spread() ahead of it", x.spread(0, 3), REFUSED);
        check.due("a LEASE of one MONTH: spread() behind it", x.spread(0, 5), REFUSED);
        check.due("a LEASE of one MONTH that is FREE", x.spread(1, 4), 0);
        check.due("a LEASE of one MONTH: no market", x.market(1, 1, 5), NONE);
        check.due("a LEASE of one MONTH: trued()", x.trued(0, 5), 0);
    }

    private static void endOnceTheBreakIsKnown() {
        String sentence = "once its break is KNOWN to be taken, the MONTH of 'break'";
        RentReview x = at(11, "rate 0;lease 10 5 100 1 1;break 13;");
        check.due(sentence + ": END ahead of it", Check.lease(x, 0, 6), 15);
        check.due(sentence, x.breaks(0), 13);
        check.due(sentence + ": END", Check.lease(x, 0, 6), 13);
        // In 10 it is not KNOWN: 400 by 5. In 11 it is: 200 less 80, by 2.
        check.due(sentence + ": spread() of the MONTH ahead", x.spread(0, 10), 80);
        check.due(sentence + ": spread() of the MONTH in which it is", x.spread(0, 11), 60);
        check.due(sentence + ": spread() of the last", x.spread(0, 12), 60);
        check.due(sentence + ": spread() of END", x.spread(0, 13), 0);
        x.undo();
        check.due(sentence + ": not taken any more", Check.lease(x, 0, 6), 15);
        goTo(x, 12);
        check.due(sentence + ", in the MONTH ahead of it", x.breaks(0), 13);
        // 400 by 5, twice; in 12: 200 less 160.
        check.due(sentence + ": spread()", x.spread(0, 11), 80);
        check.due(sentence + ": spread()", x.spread(0, 12), 40);
    }

    private static void breakAheadOfStart() {
        RentReview x = Check.deskOf("rate 0;lease 10 5 100 1 0;break 11;lease 10 5 100 1 1;break 14;");
        check.due("a break at START and 1", x.breaks(0), 11);
        check.due("a break at START and 1: billed()", x.billed(0, 10), 100);
        check.due("a break at START and 1: billed() of END", x.billed(0, 11), NONE);
        check.due("a break at START and 1: spread()", x.spread(0, 10), 100);
        check.due("a break at START and 1: spread() of END", x.spread(0, 11), 0);
        check.due("a break at START and 1: spread() of the last MONTH as told", x.spread(0, 14), 0);
        check.due("a break at START and 1: ahead() of the last MONTH as told", x.ahead(0, 14), 0);
        check.due("a break one MONTH ahead of START and TERM", x.breaks(1), 14);
        // KNOWN from START on: 300 by 4.
        check.due("a break KNOWN from START on", x.spread(1, 10), 75);
        check.due("a break KNOWN from START on", x.spread(1, 13), 75);
        check.due("a break KNOWN from START on", x.spread(1, 14), 0);
    }

    private static void reviewsBelowStartAndTerm() {
        String sentence = "REVIEWS below START and TERM";
        int[][] all = {{1, 1, 0}, {2, 1, 1}, {2, 2, 0}, {3, 2, 1}, {4, 2, 1}, {5, 2, 2}, {7, 8, 0}, {60, 60, 0},
            {61, 60, 1}, {120, 60, 1}, {120, 59, 2}, {120, 40, 2}, {120, 39, 3}, {120, 1, 119}};
        for (int[] one : all) {
            String line = "lease 7 " + one[0] + " 10 " + one[1] + " 0;";
            RentReview x = Check.deskOf("rate 0;" + line + "by step 0;" + line);
            check.due(sentence + " of " + line, Check.lease(x, 0, 7), one[2]);
            check.due(sentence + ", none without 'by', of " + line, Check.lease(x, 1, 7), 0);
            check.due(sentence + ", none without 'by', of " + line, x.review(1, 1, 0, 0), REFUSED);
            check.due(sentence + ": from 1 on, of " + line, x.review(0, 0, 0, 0), REFUSED);
            check.due(sentence + ": one more, of " + line, x.review(0, one[2] + 1, 0, 0), REFUSED);
            if (one[2] > 0) {
                check.due(sentence + ": the first of " + line, x.review(0, 1, 0, 0), 7 + one[1]);
                check.due(sentence + ": the last of " + line, x.review(0, one[2], 0, 0), 7 + one[1] * one[2]);
            }
        }
        RentReview broken = Check.deskOf("rate 0;lease 7 9 10 2 0;by step 100;break 8;");
        broken.breaks(0);
        check.due(sentence + ", with a break too", Check.lease(broken, 0, 7), 4);
        check.due(sentence + ", with a break too", broken.review(0, 4, 0, 0), 15);
    }

    // ---- what is KNOWN ----

    private static void valuesOfTheText() {
        String sentence = "VALUES of the TEXT: from KNOWN on";
        RentReview x = Check.deskOf("rate 0;index 3 10 0;index 50 20 51;index 239 30 239;");
        check.due(sentence + " (0)", x.index(3, 0), 10);
        check.due(sentence + " (50)", x.index(50, 50), NONE);
        check.due(sentence + " (51)", x.index(50, 51), 20);
        check.due(sentence + " (238)", x.index(239, 238), NONE);
        check.due(sentence + " (239)", x.index(239, 239), 30);
        check.due(sentence + ", counted though not KNOWN", x.now(3), 3);
        check.due(sentence + ", it has one though not KNOWN", x.publish(239, 5), NONE);
        goTo(x, 239);
        check.due(sentence + ", whatever NOW is", x.index(50, 50), NONE);
        check.due(sentence + ", whatever NOW is", x.index(50, 51), 20);
    }

    private static void whatCallsTell() {
        String sentence = "what calls tell: from the NOW of then on";
        RentReview x = at(20, "rate 0;index 10 100 0;lease 10 20 100 5 0;by index 0;lease 10 20 100 5 0;by market;"
            + "lease 10 20 100 5 0;by turnover 500;lease 10 20 100 5 5;break 25;");
        x.publish(15, 200);
        x.market(1, 1, 300);
        for (int month = 10; month < 15; month++) {
            x.turnover(2, month, 800);
        }
        x.breaks(3);
        x.pass(7);
        int[] told = {200, 300, 400};
        check.due(sentence + ": index()", x.index(15, 19), NONE);
        check.due(sentence + ": index()", x.index(15, 20), 200);
        for (int lease = 0; lease < 3; lease++) {
            check.due(sentence + ": rent() in 19", x.rent(lease, 15, 19), 100);
            check.due(sentence + ": rent() in 20", x.rent(lease, 15, 20), told[lease]);
            check.due(sentence + ": rent() in 239", x.rent(lease, 15, 239), told[lease]);
            check.due(sentence + ": WANTED in 19", x.review(lease, 1, 19, 1), NONE);
            check.due(sentence + ": WANTED in 20", x.review(lease, 1, 20, 1), told[lease]);
            check.due(sentence + ": trued() in 19", x.trued(lease, 19), 0);
            check.due(sentence + ": trued() in 20", x.trued(lease, 20), 5 * (told[lease] - 100));
            check.due(sentence + ": trued() in 21", x.trued(lease, 21), 0);
        }
        // 1500 by 20; in 20: 1000 less 750, by 5.
        check.due(sentence + ": spread() of 19", x.spread(3, 19), 75);
        check.due(sentence + ": spread() of 20", x.spread(3, 20), 50);
    }

    private static void toldInTheFirstAndTheLastMonth() {
        String text = "rate 0;lease 0 9 100 2 0;by market;lease 119 120 100 60 0;by market;break 238;";
        RentReview first = Check.deskOf(text);
        first.publish(0, 5);
        first.market(0, 1, 50);
        check.due("told in 0: index()", first.index(0, 0), 5);
        check.due("told in 0: rent()", first.rent(0, 2, 0), 50);
        check.due("told in 0: no trued() in 1", first.trued(0, 1), 0);
        check.due("told in 0: no trued() in 3", first.trued(0, 3), 0);
        RentReview last = at(239, text);
        last.publish(0, 5);
        last.market(0, 1, 50);
        last.market(1, 1, 500);
        check.due("told in 239: index() in 238", last.index(0, 238), NONE);
        check.due("told in 239: index()", last.index(0, 239), 5);
        check.due("told in 239: rent() in 238", last.rent(0, 2, 238), 100);
        check.due("told in 239: rent()", last.rent(0, 2, 239), 50);
        check.due("told in 239: trued()", last.trued(0, 239), 7 * -50);
        check.due("told in 239: trued() of the last LEASE", last.trued(1, 239), 60 * 400);
        check.due("told in 239: billed() of 238", last.billed(1, 238), 100);
        RentReview ahead = at(237, text);
        check.due("told in 237: the last break", ahead.breaks(1), 238);
        check.due("told in 237: billed() of 237", ahead.billed(1, 237), 100);
        check.due("told in 237: billed() of 238", ahead.billed(1, 238), NONE);
        check.due("told in 238: no break", at(238, text).breaks(1), NONE);
    }

    // ---- INDEX ----

    private static void indexBetween() {
        String sentence = "INDEX between two VALUES, cut towards 0";
        RentReview x = Check.deskOf("rate 0;index 10 100 0;index 14 110 0;index 20 101 0;index 21 150 0;");
        int[] want = {NONE, 100, 102, 105, 107, 110, 109, 107, 106, 104, 103, 101, 150, NONE};
        for (int month = 9; month <= 22; month++) {
            check.due(sentence + ", of " + month, x.index(month, 0), want[month - 9]);
        }
        RentReview same = Check.deskOf("rate 0;index 0 9 0;index 9 9 0;");
        check.due(sentence + ": without a difference", same.index(4, 0), 9);
    }

    private static void indexWithoutOneOnEachSide() {
        String sentence = "without one on each side there is none";
        RentReview x = Check.deskOf("rate 0;index 0 10 5;index 239 20 7;");
        for (int month : new int[] {0, 1, 100, 238, 239}) {
            check.due(sentence + ": no VALUE KNOWN", x.index(month, 4), NONE);
            check.due(sentence + ": one alone", x.index(month, 6), month == 0 ? 10 : NONE);
        }
        check.due(sentence + ": both", x.index(1, 7), 10);
        check.due(sentence + ": both", x.index(238, 7), 19);
        RentReview one = Check.deskOf("rate 0;index 100 10 0;");
        check.due(sentence + ": one alone", one.index(99, 239), NONE);
        check.due(sentence + ": its own MONTH", one.index(100, 239), 10);
        check.due(sentence + ": one alone", one.index(101, 239), NONE);
    }

    private static void indexOfTheNearest() {
        String sentence = "between the nearest MONTHS with KNOWN VALUES";
        RentReview x = Check.deskOf("rate 0;index 0 1000 0;index 10 2000 0;index 20 100 0;index 30 9000 0;"
            + "index 14 500 3;index 16 600 4;");
        check.due(sentence + ": of four", x.index(15, 2), 1050);
        check.due(sentence + ": one nearer on one side", x.index(15, 3), 500 - 400 / 6);
        check.due(sentence + ": one nearer on both", x.index(15, 4), 550);
        check.due(sentence + ": at its own", x.index(14, 4), 500);
        check.due(sentence + ": at its own, not KNOWN", x.index(14, 2), 2000 - 1900 * 4 / 10);
    }

    private static void indexFarApart() {
        RentReview up = Check.deskOf("rate 0;index 0 1 0;index 239 9999 0;");
        check.due("INDEX of 1, far apart", up.index(1, 0), 42);
        check.due("INDEX of 238, far apart", up.index(238, 0), 9957);
        RentReview down = Check.deskOf("rate 0;index 0 9999 0;index 239 1 0;");
        check.due("INDEX of 1, far apart and down", down.index(1, 0), 9958);
        check.due("INDEX of 238, far apart and down", down.index(238, 0), 43);
    }

    // ---- RENT and WANTED ----

    private static void rentOneReviewBehindTheOther() {
        RentReview x = Check.deskOf("rate 0;lease 6 9 1000 3 0;by market;");
        x.market(0, 2, 1500);
        int[] want = {1000, 1000, 1000, 1000, 1000, 1000, 1500, 1500, 1500};
        for (int month = 6; month < 15; month++) {
            check.due("RENT from each REVIEW on, of " + month, x.rent(0, month, 0), want[month - 6]);
        }
        x.market(0, 1, 1200);
        check.due("RENT ahead of the first REVIEW", x.rent(0, 8, 0), 1000);
        check.due("RENT at the first REVIEW", x.rent(0, 9, 0), 1200);
        check.due("RENT ahead of the second REVIEW", x.rent(0, 11, 0), 1200);
        check.due("RENT at the second REVIEW", x.rent(0, 12, 0), 1500);
    }

    private static void wantedByIndexOfBoth() {
        String sentence = "by 'index': KNOWN, if there are both";
        RentReview x = Check.deskOf("rate 0;index 5 100 2;index 9 150 4;lease 5 9 1000 4 0;by index 0;");
        check.due(sentence + ": none", x.review(0, 1, 1, 1), NONE);
        check.due(sentence + ": of START alone", x.review(0, 1, 3, 1), NONE);
        check.due(sentence + ": both", x.review(0, 1, 4, 1), 1500);
        RentReview y = Check.deskOf("rate 0;index 5 100 4;index 9 150 2;lease 5 9 1000 4 0;by index 0;");
        check.due(sentence + ": of the REVIEW alone", y.review(0, 1, 3, 1), NONE);
        check.due(sentence + ": both", y.review(0, 1, 4, 1), 1500);
        check.due(sentence + ": without it RENT stays", y.rent(0, 9, 3), 1000);
        check.due(sentence + ": the next has none", y.review(0, 2, 239, 1), NONE);
        check.due(sentence + ": RENT goes on", y.review(0, 2, 239, 2), 1500);
    }

    private static void wantedByIndexBelowMonth0() {
        String sentence = "INDEX of (START less LAG)";
        RentReview x = Check.deskOf("rate 0;index 0 100 0;index 40 500 0;"
            + "lease 12 13 1000 12 0;by index 12;lease 11 13 1000 12 0;by index 12;lease 0 13 1000 12 0;by index 1;"
            + "lease 0 13 1000 12 0;by index 0;lease 119 120 1000 60 0;by index 12;");
        check.due(sentence + ": MONTH 0", x.review(0, 1, 0, 1), 2200);
        check.due(sentence + ": below MONTH 0", x.review(1, 1, 0, 1), NONE);
        check.due(sentence + ": below MONTH 0", x.review(2, 1, 0, 1), NONE);
        check.due(sentence + ": LAG 0", x.review(3, 1, 0, 1), 2200);
        check.due(sentence + ": behind the last VALUE", x.review(4, 1, 0, 1), NONE);
        x.publish(107, 10);
        x.publish(167, 20);
        check.due(sentence + " and of (t less LAG)", x.review(4, 1, 0, 1), 2000);
    }

    private static void wantedByIndexCut() {
        RentReview x = Check.deskOf("rate 0;index 0 1000 0;index 1 1001 0;index 2 999 0;lease 0 3 999 1 0;by index 0;"
            + "lease 0 2 99999 1 0;by index 0;");
        check.due("by 'index': 999.999 is cut", x.review(0, 1, 0, 1), 999);
        check.due("by 'index': 998.001 is cut", x.review(0, 2, 0, 1), 998);
        check.due("by 'index': RENT as told, not RENT of then", x.review(0, 2, 0, 2), 998);
        RentReview most = Check.deskOf("rate 0;index 0 1 0;index 1 9999 0;lease 0 2 99999 1 0;by index 0;");
        check.due("by 'index': the most that is WANTED", most.review(0, 1, 0, 1), 999890001);
    }

    private static void wantedByMarket() {
        RentReview x = at(3, "rate 0;lease 0 5 70 2 0;by market;");
        check.due("by 'market': not told", x.review(0, 1, 239, 1), NONE);
        x.market(0, 1, 1);
        check.due("by 'market': not KNOWN yet", x.review(0, 1, 2, 1), NONE);
        check.due("by 'market': KNOWN", x.review(0, 1, 3, 1), 1);
        check.due("by 'market': of the other not", x.review(0, 2, 3, 1), NONE);
        check.due("by 'market': RENT from the other on", x.review(0, 2, 3, 2), 1);
    }

    private static void wantedByTurnoverOfTheMonthsAhead() {
        String sentence = "by 'turnover': the EVERY MONTHS ahead of t";
        RentReview x = Check.deskOf("rate 0;lease 10 9 100 3 0;by turnover 500;");
        // REVIEW 2 is at 16: 13, 14, 15 and neither 12 nor 16.
        x.turnover(0, 12, 999999);
        x.turnover(0, 14, 2000);
        x.turnover(0, 15, 3001);
        x.turnover(0, 16, 999999);
        check.due(sentence + ": the first is not told", x.review(0, 2, 0, 1), NONE);
        x.turnover(0, 13, 1000);
        // 6001 times 500 by 1000 is 3000, by 3 is 1000.
        check.due(sentence + ": each told", x.review(0, 2, 0, 1), 1000);
        x.undo();
        x.undo();
        x.undo();
        x.turnover(0, 13, 1000);
        check.due(sentence + ": the last is not told", x.review(0, 2, 0, 1), NONE);
        x.pass(1);
        x.turnover(0, 15, 0);
        check.due(sentence + ": the last is not KNOWN", x.review(0, 2, 0, 1), NONE);
        check.due(sentence + ": 0 is told", x.review(0, 2, 1, 1), 500);
        RentReview each = Check.deskOf("rate 0;lease 0 3 1 1 0;by turnover 1;");
        each.turnover(0, 0, 1999);
        each.turnover(0, 1, 2000);
        check.due("by 'turnover': 1.999 is cut", each.review(0, 1, 0, 1), 1);
        check.due("by 'turnover': 2", each.review(0, 2, 0, 1), 2);
        check.due("by 'turnover': the last MONTH is of no REVIEW", each.turnover(0, 2, 5), true);
    }

    private static void wantedByTurnoverAtLeast() {
        String sentence = "by 'turnover': RENT as told at least";
        RentReview x = Check.deskOf("rate 0;lease 0 12 100 3 0;by turnover 500;lease 0 9 100 1 0;by turnover 0;");
        int[] together = {597, 600, 606};
        int[] want = {100, 100, 101};
        for (int i = 0; i < 3; i++) {
            x.turnover(0, 3 * i, together[i]);
            x.turnover(0, 3 * i + 1, 0);
            x.turnover(0, 3 * i + 2, 0);
            check.due(sentence + ": of " + together[i], x.review(0, i + 1, 0, 1), want[i]);
        }
        x.turnover(1, 0, 999999);
        check.due(sentence + ": SHARE 0", x.review(1, 1, 0, 1), 100);
        RentReview down = Check.deskOf("rate 0;lease 0 9 100 1 0;by turnover 500;");
        down.turnover(0, 0, 1000);
        down.turnover(0, 1, 400);
        down.turnover(0, 2, 100);
        check.due(sentence + ": 500", down.review(0, 1, 0, 1), 500);
        check.due(sentence + ", not the RENT of then", down.review(0, 2, 0, 1), 200);
        check.due(sentence + ": RENT goes down", down.review(0, 2, 0, 2), 200);
        check.due(sentence + ": 50", down.review(0, 3, 0, 1), 100);
        RentReview most = Check.deskOf("rate 0;lease 0 120 1 60 0;by turnover 999;");
        for (int month = 0; month < 60; month++) {
            most.turnover(0, month, 999999);
        }
        check.due("by 'turnover': the most", most.review(0, 1, 0, 1), 998999);
    }

    private static void wantedByStep() {
        RentReview x = Check.deskOf("rate 0;lease 0 4 1000 1 0;by step 0;lease 0 4 1000 1 0;by step 1;"
            + "lease 0 4 999 1 0;by step 1;lease 0 4 1000 1 0;by step 999;");
        check.due("by 'step' 0", x.review(0, 3, 0, 1), 1000);
        check.due("by 'step' 1", x.review(1, 1, 0, 1), 1001);
        check.due("by 'step' 1, of the RENT of then", x.review(1, 2, 0, 1), 1002);
        check.due("by 'step' 1, 999.999 is cut", x.review(2, 3, 0, 1), 999);
        check.due("by 'step' 999", x.review(3, 1, 0, 1), 1999);
        check.due("by 'step' 999, cut", x.review(3, 2, 0, 1), 3996);
    }

    // ---- HELD ----

    /** RENT from the one REVIEW on of a LEASE by 'market'. */
    private static void held(String sentence, int rent, String parts, int market, int want) {
        RentReview x = Check.deskOf("rate 0;lease 0 2 " + rent + " 1 0;by market;" + parts);
        x.market(0, 1, market);
        check.due(sentence + " " + parts + " of " + market, x.review(0, 1, 0, 2), want);
        check.due(sentence + " " + parts + " of " + market + ", WANTED", x.review(0, 1, 0, 1), market);
    }

    private static void collarOnBothSides() {
        String sentence = "HELD by";
        held(sentence, 1000, "collar 100 200;", 899, 900);
        held(sentence, 1000, "collar 100 200;", 900, 900);
        held(sentence, 1000, "collar 100 200;", 901, 901);
        held(sentence, 1000, "collar 100 200;", 1199, 1199);
        held(sentence, 1000, "collar 100 200;", 1200, 1200);
        held(sentence, 1000, "collar 100 200;", 1201, 1200);
        held(sentence, 1000, "collar 0 0;", 999, 1000);
        held(sentence, 1000, "collar 0 0;", 1001, 1000);
        held(sentence, 1000, "collar 999 999;", 1, 1);
        held(sentence, 2000, "collar 999 999;", 1, 2);
        held(sentence, 1000, "collar 999 999;", 1999, 1999);
        held(sentence, 1000, "collar 999 999;", 2000, 1999);
        RentReview x = Check.deskOf("rate 0;lease 0 3 1000 1 0;by market;collar 100 100;");
        x.market(0, 1, 1100);
        x.market(0, 2, 1211);
        check.due("'collar' of the RENT of then", x.review(0, 2, 0, 2), 1210);
        x.undo();
        x.market(0, 2, 989);
        check.due("'collar' of the RENT of then, its FLOOR", x.review(0, 2, 0, 2), 990);
        check.due("'collar' has no least", x.review(0, 2, 0, 3), NONE);
        check.due("'collar' has no most", x.review(0, 2, 0, 4), NONE);
    }

    private static void collarIsCut() {
        held("cut:", 999, "collar 1 1;", 1, 998);
        held("cut:", 999, "collar 1 1;", 99999, 999);
        held("cut:", 1005, "collar 30 47;", 1, 974);
        held("cut:", 1005, "collar 30 47;", 99999, 1052);
    }

    private static void overallOnBothSides() {
        String sentence = "HELD by";
        held(sentence, 1000, "overall 100 200;", 899, 900);
        held(sentence, 1000, "overall 100 200;", 900, 900);
        held(sentence, 1000, "overall 100 200;", 901, 901);
        held(sentence, 1000, "overall 100 200;", 1199, 1199);
        held(sentence, 1000, "overall 100 200;", 1200, 1200);
        held(sentence, 1000, "overall 100 200;", 1201, 1200);
        held(sentence, 1000, "overall 0 0;", 1, 1000);
        held(sentence, 1000, "overall 0 0;", 99999, 1000);
        held(sentence, 1000, "overall 999 999;", 2000, 1999);
        // The nearer of the two on each side.
        held(sentence, 1000, "collar 50 50;overall 100 100;", 1, 950);
        held(sentence, 1000, "collar 50 50;overall 100 100;", 99999, 1050);
        held(sentence, 1000, "overall 50 50;collar 100 100;", 1, 950);
        held(sentence, 1000, "overall 50 50;collar 100 100;", 99999, 1050);
    }

    private static void overallIsCutAtEachReview() {
        String sentence = "'overall', at each REVIEW (KNOWN or not), cut";
        RentReview x = Check.deskOf("rate 0;lease 0 4 1005 1 0;by market;overall 100 100;");
        int[] least = {904, 813, 731};
        int[] most = {1105, 1215, 1336};
        for (int r = 1; r <= 3; r++) {
            check.due(sentence + ": the least at " + r, x.review(0, r, 0, 3), least[r - 1]);
            check.due(sentence + ": the most at " + r, x.review(0, r, 0, 4), most[r - 1]);
        }
        x.market(0, 3, 1337);
        check.due(sentence + ": no more than the most", x.review(0, 3, 0, 2), 1336);
        x.undo();
        x.market(0, 3, 730);
        check.due(sentence + ": no less than the least", x.review(0, 3, 0, 2), 731);
        check.due(sentence + ": REVIEWS not KNOWN leave RENT", x.review(0, 2, 0, 2), 1005);
        RentReview widest = Check.deskOf("rate 0;lease 0 4 1005 1 0;by market;overall 999 0;");
        check.due(sentence + ": the least with FLOOR 999", widest.review(0, 1, 0, 3), 1);
        check.due(sentence + ": the least becomes 0", widest.review(0, 2, 0, 3), 0);
        check.due(sentence + ": the most with CAP 0", widest.review(0, 3, 0, 4), 1005);
        check.due("no 'overall' has no least", Check.deskOf("rate 0;lease 0 4 9 1 0;by step 0;").review(0, 1, 0, 3), NONE);
    }

    private static void upward() {
        held("HELD by", 1000, "upward;", 999, 1000);
        held("HELD by", 1000, "upward;", 1000, 1000);
        held("HELD by", 1000, "upward;", 1001, 1001);
        held("HELD without", 1000, "", 999, 999);
        held("HELD by", 1000, "upward;collar 500 0;", 1, 1000);
        held("HELD by", 1000, "upward;overall 500 0;", 1, 1000);
        RentReview x = Check.deskOf("rate 0;lease 0 3 1000 1 0;by market;upward;");
        x.market(0, 1, 1500);
        x.market(0, 2, 1499);
        check.due("'upward' of the RENT of then", x.review(0, 2, 0, 2), 1500);
    }

    private static void oneAtLeast() {
        String sentence = "1 at least";
        RentReview x = Check.deskOf("rate 0;index 0 9999 0;index 1 1 0;lease 0 2 9998 1 0;by index 0;"
            + "lease 0 2 9999 1 0;by index 0;lease 0 2 19998 1 0;by index 0;"
            + "lease 0 2 3 1 0;by index 0;collar 999 0;lease 0 2 3 1 0;by index 0;overall 999 0;");
        check.due(sentence + ": WANTED 0", x.review(0, 1, 0, 1), 0);
        check.due(sentence + ": WANTED 0 becomes 1", x.review(0, 1, 0, 2), 1);
        check.due(sentence + ": WANTED 1", x.review(1, 1, 0, 1), 1);
        check.due(sentence + ": 1 stays", x.review(1, 1, 0, 2), 1);
        check.due(sentence + ": 2 stays", x.review(2, 1, 0, 2), 2);
        check.due(sentence + ": with a 'collar' of 0", x.review(3, 1, 0, 2), 1);
        check.due(sentence + ": with a least of 0", x.review(4, 1, 0, 2), 1);
        check.due(sentence + ": the least itself is 0", x.review(4, 1, 0, 3), 0);
    }

    private static void atMost999999() {
        String sentence = "Each RENT is 999999 at most";
        RentReview x = Check.deskOf("rate 0;index 0 1 0;index 1 3937 0;index 2 1001 0;index 3 1000 0;"
            + "lease 0 2 254 1 0;by index 0;lease 0 3 999 2 0;by index 0;lease 0 4 1000 3 0;by index 0;"
            + "lease 0 6 99999 1 0;by step 999;lease 0 2 99999 1 0;by index 0;collar 0 999;");
        check.due(sentence + ": 999998", x.review(0, 1, 0, 2), 999998);
        check.due(sentence + ": 999999", x.review(1, 1, 0, 2), 999999);
        check.due(sentence + ": WANTED 1000000", x.review(2, 1, 0, 1), 1000000);
        check.due(sentence + ": 1000000", x.review(2, 1, 0, 2), 999999);
        check.due(sentence + ": 798792", x.review(3, 3, 0, 2), 798792);
        check.due(sentence + ": WANTED 1596785", x.review(3, 4, 0, 1), 1596785);
        check.due(sentence + ": 1596785", x.review(3, 4, 0, 2), 999999);
        check.due(sentence + ": what is WANTED of it", x.review(3, 5, 0, 1), 1998998);
        check.due(sentence + ": again", x.review(3, 5, 0, 2), 999999);
        check.due(sentence + ": rent()", x.rent(3, 5, 0), 999999);
        check.due(sentence + ": 'collar' is nearer", x.review(4, 1, 0, 2), 199898);
    }

    private static void mostOfOverall() {
        String sentence = "the most of 'overall' is 999999 at most";
        RentReview x = Check.deskOf("rate 0;lease 0 120 99999 1 0;by market;overall 999 999;"
            + "lease 0 120 99999 1 0;by market;overall 0 1;");
        int[] want = {199898, 399596, 798792, 999999, 999999};
        for (int r = 1; r <= 5; r++) {
            check.due(sentence + ", at " + r, x.review(0, r, 0, 4), want[r - 1]);
        }
        check.due(sentence + ", at the last", x.review(0, 119, 0, 4), 999999);
        check.due("the least of 'overall' at the last", x.review(0, 119, 0, 3), 0);
        check.due("the least of 'overall' without a FLOOR", x.review(1, 119, 0, 3), 99999);
    }

    // ---- DUE, BILLED, TRUED, INTEREST ----

    private static void freeMonths() {
        String sentence = "DUE is 0 in the first FREE MONTHS";
        for (int free : new int[] {0, 1, 4, 5}) {
            RentReview x = Check.deskOf("rate 0;lease 10 5 100 1 " + free + ";");
            for (int month = 10; month < 15; month++) {
                check.due(sentence + ": " + free + ", of " + month, x.billed(0, month), month < 10 + free ? 0 : 100);
                check.due(sentence + ": RENT is not", x.rent(0, month, 0), 100);
            }
            check.due(sentence + ": " + free + ", ahead of START", x.billed(0, 9), NONE);
            check.due(sentence + ": " + free + ", spread", x.spread(0, 10), (5 - free) * 20);
            check.due(sentence + ": " + free + ", ahead()", x.ahead(0, 14), 0);
        }
    }

    private static void billedAsKnownInIt() {
        RentReview x = Check.deskOf("rate 0;index 0 100 0;index 3 150 5;lease 0 9 100 3 0;by index 0;");
        int[] want = {100, 100, 100, 100, 100, 150, 150, 150, 150};
        for (int month = 0; month < 9; month++) {
            check.due("BILLED as KNOWN in it: " + month, x.billed(0, month), want[month]);
        }
    }

    private static void truedMonthsAhead() {
        String sentence = "TRUED in k: START to k less 1";
        int[][] all = {{0, 0}, {1, 0}, {10, 0}, {11, 0}, {12, 0}, {13, 100}, {14, 200}, {15, 300}, {16, 300}, {239, 300}};
        for (int[] one : all) {
            RentReview x = at(one[0], "rate 500;lease 10 5 1000 2 0;by market;lease 0 3 1000 1 0;by market;");
            x.market(0, 1, 1100);
            if (one[0] > 0) {
                check.due(sentence + ": told in " + one[0], x.trued(0, one[0]), one[1]);
                check.due(sentence + ": ahead of it", one[0] > 1 ? x.trued(0, one[0] - 1) : 0, 0);
            }
            check.due(sentence + ": behind it", one[0] < 239 ? x.trued(0, one[0] + 1) : 0, 0);
        }
        RentReview first = at(1, "rate 500;lease 0 3 1000 1 0;by market;lease 1 3 1000 1 0;by market;");
        first.market(0, 1, 5);
        check.due(sentence + ": in 1, MONTH 0 alone", first.trued(0, 1), 0);
        check.due(sentence + ": none ahead of it", first.trued(1, 1), 0);
        check.due(sentence + ": none ahead of it, no INTEREST", first.interest(1, 1), 0);
        first.pass(1);
        first.market(0, 2, 7);
        check.due(sentence + ": none at MONTH 2 itself", first.trued(0, 2), 0);
        RentReview free = at(8, "rate 500;lease 0 6 1000 2 3;by market;");
        free.market(0, 1, 1100);
        check.due(sentence + ": DUE is 0 where FREE", free.trued(0, 8), 300);
    }

    private static void truedBelowEnd() {
        String sentence = "TRUED in k: below END as KNOWN in k";
        String text = "rate 500;lease 10 6 1000 2 0;by market;break 14;";
        int[][] all = {{13, 240}, {14, 480}, {15, 480}, {16, 480}, {100, 480}};
        for (int[] one : all) {
            RentReview x = at(12, text);
            x.breaks(0);
            goTo(x, one[0]);
            x.market(0, 1, 1240);
            check.due(sentence + ": told in " + one[0], x.trued(0, one[0]), one[1]);
            int last = Math.min(one[0] - 1, 13);
            int interest = 0;
            for (int month = 12; month <= last; month++) {
                interest += 10 * (one[0] - month);
            }
            check.due("INTEREST below END: told in " + one[0], x.interest(0, one[0]), interest);
        }
        RentReview together = at(13, text);
        together.market(0, 1, 1240);
        together.breaks(0);
        check.due(sentence + ": KNOWN in the same MONTH", together.trued(0, 13), 240);
        check.due(sentence + ": the break alone trues nothing", at(13, text).trued(0, 13), 0);
    }

    private static void interestCutTowards0() {
        String sentence = "INTEREST: each by 12000, cut towards 0";
        int[][] all = {{1023, 0}, {1024, 1}, {1047, 1}, {1048, 2}, {977, 0}, {976, -1}, {953, -1}, {952, -2}};
        for (int[] one : all) {
            RentReview x = at(2, "rate 500;lease 0 9 1000 1 0;by market;lease 0 9 1000 1 0;by market;");
            x.market(0, 1, one[0]);
            check.due(sentence + ": " + one[0] + " for one MONTH", x.interest(0, 2), one[1]);
        }
        RentReview two = at(3, "rate 500;lease 0 9 1000 1 0;by market;lease 0 9 1000 1 0;by market;");
        two.market(0, 1, 1023);
        two.market(1, 1, 977);
        // 0.96 and 1.92, not 2.88.
        check.due(sentence + ", then together", two.interest(0, 3), 1);
        check.due(sentence + ", then together, below 0", two.interest(1, 3), -1);
        for (int rate : new int[] {0, 1}) {
            RentReview x = at(2, "rate " + rate + ";lease 0 9 1 1 0;by market;lease 0 9 1 1 0;by market;");
            x.market(0, 1, 12001);
            x.market(1, 1, 12000);
            check.due(sentence + ", R " + rate, x.interest(0, 2), rate);
            check.due(sentence + ", R " + rate, x.interest(1, 2), 0);
        }
    }

    private static void interestOfTheMost() {
        RentReview x = Check.deskOf("rate 500;lease 0 120 99999 1 0;by index 0;");
        x.publish(0, 1);
        goTo(x, 239);
        x.publish(119, 9999);
        // 119 MONTHS at 900000 more, for 238 MONTHS down to 120.
        check.due("TRUED of the most", x.trued(0, 239), 107100000);
        check.due("INTEREST of the most", x.interest(0, 239), 798787500);
        RentReview down = Check.deskOf("rate 500;index 0 1 0;index 239 9999 0;lease 0 120 99999 1 0;by index 0;");
        goTo(down, 239);
        down.publish(119, 1);
        // INDEX is 1 again from 0 to 119: 900000 less in each.
        check.due("TRUED of the least", down.trued(0, 239), -107100000);
        check.due("INTEREST of the least", down.interest(0, 239), -798787500);
    }

    // ---- SPREAD ----

    private static void spreadCut() {
        String sentence = "SPREAD, cut towards 0";
        RentReview x = Check.deskOf("rate 0;lease 0 3 100 1 0;by step 10;");
        // 100, 101, 102: 303 by 3.
        check.due(sentence + ": nothing to cut", x.spread(0, 0), 101);
        RentReview y = Check.deskOf("rate 0;lease 0 3 100 3 1;lease 0 4 101 3 1;");
        int[] want = {66, 67, 67};
        for (int month = 0; month < 3; month++) {
            check.due(sentence + ": 200 by 3, of " + month, y.spread(0, month), want[month]);
        }
        int[] four = {75, 76, 76, 76};
        for (int month = 0; month < 4; month++) {
            check.due(sentence + ": 303 by 4, of " + month, y.spread(1, month), four[month]);
        }
        RentReview below = Check.deskOf("rate 0;lease 0 4 1000 1 3;by market;lease 0 4 1000 1 3;by market;");
        below.pass(2);
        below.market(0, 3, 495);
        below.market(1, 3, 501);
        // In 2: 495 less 500, by 2.
        check.due(sentence + ": -5 by 2", below.spread(0, 2), -2);
        check.due(sentence + ": the last has what is left", below.spread(0, 3), -3);
        check.due(sentence + ": 1 by 2", below.spread(1, 2), 0);
        check.due(sentence + ": the last has what is left", below.spread(1, 3), 1);
    }

    private static void spreadOfTheMost() {
        RentReview x = Check.deskOf("rate 0;index 0 1 0;index 119 9999 0;lease 0 120 99999 1 0;by index 0;");
        // 99999 and 119 times 999999: 119099880 by 120.
        check.due("SPREAD of the most", x.spread(0, 0), 992499);
        check.due("SPREAD of the most, the last", x.spread(0, 119), 992499);
        check.due("SPREADS less DUE of the first", x.ahead(0, 0), 892500);
        check.due("SPREADS less DUE of all", x.ahead(0, 119), 0);
        RentReview late = Check.deskOf("rate 0;index 0 1 0;index 119 9999 119;lease 0 120 99999 1 0;by index 0;");
        // All in the last MONTH: 119099880 less 119 times 99999.
        check.due("SPREAD of the most in one MONTH", late.spread(0, 119), 107199999);
        check.due("SPREAD ahead of it", late.spread(0, 118), 99999);
        RentReview down = Check.deskOf("rate 0;index 0 1 0;index 120 9999 0;index 119 1 119;lease 0 120 99999 1 0;by index 0;");
        // 119 times 992499 were spread, and all is 120 times 99999.
        check.due("SPREAD of the least in one MONTH", down.spread(0, 119), 11999880 - 119 * 992499);
    }

    private static void spreadBelowEnd() {
        String sentence = "SPREAD from END on: 0";
        RentReview x = at(5, "rate 0;lease 2 9 100 1 4;break 8;");
        check.due(sentence + ": the break", x.breaks(0), 8);
        // 500 by 9 is 55, then 445 by 8, 390 by 7; in 5: 200 less 165, by 3.
        int[] want = {55, 55, 55, 11, 12, 12, 0, 0, 0};
        for (int month = 2; month < 11; month++) {
            check.due(sentence + ", of " + month, x.spread(0, month), want[month - 2]);
        }
        check.due(sentence + ", but no MONTH of the LEASE as told", x.spread(0, 11), REFUSED);
        check.due(sentence + ", but no MONTH of the LEASE as told", x.spread(0, 1), REFUSED);
    }

    private static void spreadAsKnownInIt() {
        String sentence = "SPREAD as KNOWN in m";
        RentReview x = at(4, "rate 0;lease 2 5 100 1 0;by market;");
        x.market(0, 1, 200);
        // In 2 and 3: 500 by 5. In 4: 900 less 200, by 3.
        int[] want = {100, 100, 233, 233, 234};
        for (int month = 2; month < 7; month++) {
            check.due(sentence + ", of " + month, x.spread(0, month), want[month - 2]);
        }
        // DUE as KNOWN in 3 is 100 each; in 4 it is 100, 200, 200.
        check.due("ahead() as KNOWN in 3", x.ahead(0, 3), 0);
        check.due("ahead() as KNOWN in 4", x.ahead(0, 4), 433 - 500);
        check.due("ahead() at the last", x.ahead(0, 6), 0);
        RentReview late = at(7, "rate 0;lease 2 5 100 1 0;by market;");
        late.market(0, 1, 200);
        check.due(sentence + ": KNOWN behind the last", late.spread(0, 6), 100);
        check.due("ahead(): KNOWN behind the last", late.ahead(0, 6), 0);
        RentReview early = at(2, "rate 0;lease 2 5 100 1 0;by market;");
        early.market(0, 1, 200);
        check.due(sentence + ": KNOWN at START", early.spread(0, 2), 180);
    }

    private static void spreadOfSteps() {
        RentReview x = Check.deskOf("rate 0;lease 0 4 1000 1 0;by step 999;lease 0 4 10 1 0;by step 500;overall 0 999;");
        // 1000, 1999, 3996, 7988: 14983 by 4; then 11238 by 3, 7492 by 2.
        int[] want = {3745, 3746, 3746, 3746};
        int[] ahead = {2745, 4492, 4242, 0};
        for (int month = 0; month < 4; month++) {
            check.due("SPREAD of steps, of " + month, x.spread(0, month), want[month]);
            check.due("SPREADS less DUE of steps, of " + month, x.ahead(0, month), ahead[month]);
        }
        // 10, 15, 22, 33: 80 by 4.
        check.due("SPREAD of steps within 'overall'", x.spread(1, 3), 20);
    }

    /** Each is cut anew from the NOW of then on, not ahead of it; undone it is as it was. */
    private static void spreadOfWhatEachCallTells() {
        String text = "rate 0;index 2 100 0;lease 2 6 100 2 0;by index 0;lease 2 6 100 2 0;by market;"
            + "lease 2 6 100 2 0;by turnover 500;";
        for (int lease = 0; lease < 3; lease++) {
            RentReview x = at(4, text);
            for (int turn = 0; turn < 2; turn++) {
                boolean done = lease == 0 ? x.publish(4, 200) == 2 : lease == 1 ? x.market(1, 1, 200) == 4
                    : x.turnover(2, 2, 400) && x.turnover(2, 3, 400);
                check.due("told of lease " + lease, done, true);
                // 600 by 6; in 4: 1000 less 200, by 4.
                check.due("SPREAD of 3, told in 4, of lease " + lease, x.spread(lease, 3), 100);
                check.due("SPREAD of 4, told in 4, of lease " + lease, x.spread(lease, 4), 200);
                check.due("SPREAD of 7, told in 4, of lease " + lease, x.spread(lease, 7), 200);
                x.undo();
                check.due("SPREAD of 4, undone, of lease " + lease, x.spread(lease, 4), 100);
                check.due("SPREAD of 7, undone, of lease " + lease, x.spread(lease, 7), 100);
                if (lease == 2) {
                    x.undo();
                }
            }
        }
        RentReview ofText = Check.deskOf(text.replace("rate 0;", "rate 0;index 4 200 4;"));
        check.due("SPREAD of 3, KNOWN in 4 by the TEXT", ofText.spread(0, 3), 100);
        check.due("SPREAD of 4, KNOWN in 4 by the TEXT", ofText.spread(0, 4), 200);
    }

    private static void aheadBelowEnd() {
        String sentence = "ahead(): from START to that one (below END as KNOWN in it)";
        RentReview x = at(5, "rate 0;lease 2 9 100 1 4;break 8;");
        int[] whole = {55, 110, 165, 220, 176, 132, 88, 44, 0};
        for (int month = 2; month < 11; month++) {
            check.due(sentence + ", of " + month, x.ahead(0, month), whole[month - 2]);
        }
        x.breaks(0);
        int[] broken = {55, 110, 165, 176, 88, 0, 0, 0, 0};
        for (int month = 2; month < 11; month++) {
            check.due(sentence + ", with a break, of " + month, x.ahead(0, month), broken[month - 2]);
        }
        check.due(sentence + ", ahead of START", x.ahead(0, 1), REFUSED);
        check.due(sentence + ", behind TERM", x.ahead(0, 11), REFUSED);
        RentReview last = at(7, "rate 0;lease 2 9 100 1 4;break 8;");
        last.breaks(0);
        // 55, 55, 55, 55, 56 were spread; in 7: 200 less 276.
        check.due("a break in the last MONTH ahead of it", last.spread(0, 7), -76);
        check.due("a break in the last MONTH ahead of it", last.ahead(0, 7), 0);
        check.due("a break in the last MONTH ahead of it", last.ahead(0, 10), 0);
        RentReview late = Check.deskOf("rate 0;lease 2 9 100 2 0;by market;break 8;");
        late.breaks(0);
        goTo(late, 9);
        late.market(0, 2, 150);
        // 600 were spread; DUE of 6 and 7 is 150 each as KNOWN from 9 on.
        check.due("ahead() as KNOWN behind END, ahead of the market", late.ahead(0, 8), 0);
        check.due("ahead() as KNOWN behind END", late.ahead(0, 9), -100);
        check.due("ahead() as KNOWN behind END", late.ahead(0, 10), -100);
    }
}
