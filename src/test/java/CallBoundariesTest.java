/**
 * What each call takes and what it refuses, with which answer (Promises 6 to 22): the last number that
 * is taken and the first that is refused, on both sides, and numbers as small and as large as can be.
 */
public final class CallBoundariesTest {
    private static final Check check = new Check();
    private static final int NONE = RentReview.NONE;
    private static final int REFUSED = Check.REFUSED;
    private static final int MIN = Integer.MIN_VALUE;
    private static final int MAX = Integer.MAX_VALUE;

    /** Leases 0 to 4 are reviewed in the ways 0 to 4; each goes from 10 to 30, its REVIEWS are at 15, 20, 25. */
    private static final String FIVE = "rate 12;index 10 100 0;index 25 200 0;lease 10 20 100 5 0;break 20;"
        + "lease 10 20 100 5 0;by index 0;break 20;lease 10 20 100 5 0;by market;break 20;"
        + "lease 10 20 100 5 0;by turnover 500;break 20;lease 10 20 100 5 0;by step 10;break 20;";

    private interface Call {
        long on(RentReview x, int number);
    }

    public static void main(String[] args) {
        now();
        lease();
        index();
        rent();
        review();
        reviewWhat();
        billed();
        trued();
        interest();
        spread();
        ahead();
        wouldLease();
        wouldNow();
        wouldValue();
        wouldFirstThatIsSo();
        wouldTellsNothing();
        publish();
        publishFull();
        publishFirstThatIsSo();
        market();
        marketOfAnother();
        turnover();
        turnoverOfAnother();
        toldInTheLastMonth();
        breaks();
        breaksTaken();
        pass();
        passTo239();
        undoKeeps10();
        undoOfTheTenLatest();
        undoOfEach();
        undoNone();
        undoLeavesWhatIsNotAnAct();
        check.finish();
    }

    private static RentReview at(int month, String text) {
        RentReview x = Check.deskOf(text);
        while (x.now(0) < month) {
            x.pass(Math.min(99, month - x.now(0)));
        }
        return x;
    }

    private static RentReview five() {
        return at(12, FIVE);
    }

    /** One number of a call: from least to most it is taken, any other is refused. Each on a new desk. */
    private static void taken(String name, Call call, int least, int most, long refusal) {
        for (int number : new int[] {least, most}) {
            check.due(name + " of " + number + " is refused", call.on(five(), number) == refusal, false);
        }
        int[] others = {least - 1, most + 1, -1 - least, -1 - most, MIN, MIN + 1, MIN + least, MIN + most, MAX, MAX - 1,
            MAX - 9, least + 256, least - 256, least + 65536, least - 65536, (MAX / 5) + 1, (MIN / 5) - 1, MAX / 2 + 1 + least};
        for (int number : others) {
            if (number < least || number > most) {
                check.due(name + " of " + number, call.on(five(), number), refusal);
            }
        }
    }

    private static void now() {
        taken("6: now()", (x, n) -> x.now(n), 0, 5, NONE);
        RentReview x = five();
        x.publish(3, 9);
        x.feed(0, 0, 0, 0, 0);
        x.end(13);
        int[] want = {12, 12, 5, 3, 2, 13};
        for (int what = 0; what < 6; what++) {
            check.due("6: now(" + what + ")", x.now(what), want[what]);
        }
        check.due("6: now(6)", x.now(6), NONE);
        check.due("6: now(-1)", x.now(-1), NONE);
    }

    private static void lease() {
        taken("7: the LEASE of lease()", (x, n) -> Check.lease(x, n, 0), 0, 4, Check.THROWN);
        taken("7: the what of lease()", (x, n) -> Check.lease(x, 0, n), 0, 7, Check.THROWN);
        check.due("7: neither", Check.lease(five(), 5, 8), Check.THROWN);
        check.due("7: no LEASES", Check.lease(new RentReview(), 0, 0), Check.THROWN);
        int[] want = {10, 20, 100, 5, 0, 1, 30, 3};
        for (int what = 0; what < 8; what++) {
            check.due("7: lease(1, " + what + ")", Check.lease(five(), 1, what), want[what]);
        }
        RentReview x = five();
        x.breaks(1);
        check.due("7: END as KNOWN NOW", Check.lease(x, 1, 6), 20);
        check.due("7: of the other not", Check.lease(x, 0, 6), 30);
        check.due("7: TERM as told", Check.lease(x, 1, 1), 20);
        check.due("7: REVIEWS as told", Check.lease(x, 1, 7), 3);
        x.undo();
        check.due("7: END as KNOWN NOW, undone", Check.lease(x, 1, 6), 30);
        for (int lease = 0; lease < 5; lease++) {
            check.due("7: how it is reviewed", Check.lease(x, lease, 5), lease);
            check.due("7: how many REVIEWS", Check.lease(x, lease, 7), lease == 0 ? 0 : 3);
        }
    }

    private static void index() {
        taken("8: the MONTH of index()", (x, n) -> x.index(n, 0), 10, 25, NONE);
        taken("8: the MONTH in which it is KNOWN", (x, n) -> x.index(10, n), 0, 239, NONE);
        RentReview x = Check.deskOf("rate 0;index 0 3 0;index 239 5 0;");
        check.due("8: MONTH 0", x.index(0, 0), 3);
        check.due("8: MONTH 239", x.index(239, 239), 5);
        check.due("8: MONTH -1", x.index(-1, 239), NONE);
        check.due("8: MONTH 240", x.index(240, 239), NONE);
        check.due("8: KNOWN in -1", x.index(0, -1), NONE);
        check.due("8: KNOWN in 240", x.index(0, 240), NONE);
        check.due("8: no VALUES", new RentReview().index(0, 0), NONE);
    }

    private static void rent() {
        taken("9: the LEASE of rent()", (x, n) -> x.rent(n, 10, 0), 0, 4, NONE);
        taken("9: the MONTH of rent()", (x, n) -> x.rent(0, n, 0), 10, 29, NONE);
        taken("9: the MONTH in which it is KNOWN", (x, n) -> x.rent(0, 10, n), 0, 239, NONE);
        RentReview x = five();
        x.breaks(0);
        check.due("9: behind END", x.rent(0, 29, 239), 100);
        check.due("9: behind TERM", x.rent(0, 30, 239), NONE);
        check.due("9: no LEASES", new RentReview().rent(0, 0, 0), NONE);
    }

    private static void review() {
        taken("10: the LEASE of review()", (x, n) -> x.review(n, 1, 0, 0), 1, 4, REFUSED);
        taken("10: the what of review()", (x, n) -> x.review(1, 1, 0, n), 0, 4, REFUSED);
        for (int lease = 1; lease < 5; lease++) {
            int of = lease;
            taken("10: the r of review()", (x, n) -> x.review(of, n, 0, 0), 1, 3, REFUSED);
            taken("10: the MONTH in which it is KNOWN", (x, n) -> x.review(of, 1, n, 0), 0, 239, REFUSED);
        }
        check.due("10: a LEASE without REVIEWS", five().review(0, 1, 0, 0), REFUSED);
        check.due("10: no LEASES", new RentReview().review(0, 1, 0, 0), REFUSED);
        check.due("10: the refusal", REFUSED, -100000000);
    }

    private static void reviewWhat() {
        RentReview x = Check.deskOf("rate 0;lease 10 20 100 5 0;by market;overall 100 200;lease 10 20 100 5 0;by market;");
        int[] without = {15, NONE, 100, 90, 120};
        for (int what = 0; what < 5; what++) {
            check.due("10: not KNOWN, what " + what, x.review(0, 1, 0, what), without[what]);
        }
        check.due("10: no 'overall', the least", x.review(1, 1, 0, 3), NONE);
        check.due("10: no 'overall', the most", x.review(1, 1, 0, 4), NONE);
        check.due("10: the MONTH of the last", x.review(0, 3, 0, 0), 25);
        x.market(0, 1, 99999);
        check.due("10: WANTED", x.review(0, 1, 0, 1), 99999);
        check.due("10: RENT from it on", x.review(0, 1, 0, 2), 120);
    }

    private static void billed() {
        taken("11: the LEASE of billed()", (x, n) -> x.billed(n, 10), 0, 4, NONE);
        taken("11: the MONTH of billed()", (x, n) -> x.billed(0, n), 10, 29, NONE);
        Call broken = (x, n) -> {
            x.breaks(0);
            return x.billed(0, n);
        };
        taken("11: the MONTH of billed(), below END", broken, 10, 19, NONE);
        check.due("11: no LEASES", new RentReview().billed(0, 0), NONE);
    }

    private static void trued() {
        taken("12: the LEASE of trued()", (x, n) -> x.trued(n, 1), 0, 4, REFUSED);
        taken("12: the MONTH of trued()", (x, n) -> x.trued(0, n), 1, 239, REFUSED);
        check.due("12: 0 with none ahead of it", five().trued(0, 1), 0);
        check.due("12: 0 at START", five().trued(0, 10), 0);
        check.due("12: MONTH 0, of a LEASE from 0 on", Check.deskOf("rate 0;lease 0 1 1 1 0;").trued(0, 0), REFUSED);
        check.due("12: no LEASES", new RentReview().trued(0, 1), REFUSED);
    }

    private static void interest() {
        taken("13: the LEASE of interest()", (x, n) -> x.interest(n, 1), 0, 4, REFUSED);
        taken("13: the MONTH of interest()", (x, n) -> x.interest(0, n), 1, 239, REFUSED);
        check.due("13: 0 with none ahead of it", five().interest(0, 1), 0);
        check.due("13: MONTH 0, of a LEASE from 0 on", Check.deskOf("rate 9;lease 0 1 1 1 0;").interest(0, 0), REFUSED);
        check.due("13: no LEASES", new RentReview().interest(0, 1), REFUSED);
    }

    private static void spread() {
        taken("14: the LEASE of spread()", (x, n) -> x.spread(n, 10), 0, 4, REFUSED);
        taken("14: the MONTH of spread()", (x, n) -> x.spread(0, n), 10, 29, REFUSED);
        Call broken = (x, n) -> {
            x.breaks(0);
            return x.spread(0, n);
        };
        taken("14: the MONTH of spread(), of the LEASE as told", broken, 10, 29, REFUSED);
        check.due("14: no LEASES", new RentReview().spread(0, 0), REFUSED);
    }

    private static void ahead() {
        taken("15: the LEASE of ahead()", (x, n) -> x.ahead(n, 10), 0, 4, REFUSED);
        taken("15: the MONTH of ahead()", (x, n) -> x.ahead(0, n), 10, 29, REFUSED);
        Call broken = (x, n) -> {
            x.breaks(0);
            return x.ahead(0, n);
        };
        taken("15: the MONTH of ahead(), of the LEASE as told", broken, 10, 29, REFUSED);
        check.due("15: no LEASES", new RentReview().ahead(0, 0), REFUSED);
    }

    private static void wouldLease() {
        taken("16: the LEASE of would()", (x, n) -> x.would(n, 0, 1), 0, 4, NONE);
        check.due("16: no LEASES", new RentReview().would(0, 0, 1), NONE);
    }

    private static void wouldNow() {
        String sentence = "16: NOW is no MONTH of it as told";
        check.due(sentence + ": ahead of START", at(9, FIVE).would(0, 0, 1), NONE);
        check.due(sentence + ": START", at(10, FIVE).would(0, 0, 1), 100);
        check.due(sentence + ": the last MONTH", at(29, FIVE).would(0, 0, 1), 100);
        check.due(sentence + ": behind TERM", at(30, FIVE).would(0, 0, 1), NONE);
        RentReview broken = five();
        broken.breaks(4);
        broken.pass(7);
        check.due("16: the last MONTH below END", broken.would(4, 0, 1), 101);
        broken.pass(1);
        check.due("16: END, a MONTH of it as told", broken.would(4, 0, 1), 102);
        broken.pass(9);
        check.due("16: the last MONTH as told, behind END", broken.would(4, 0, 1), 103);
        broken.pass(1);
        check.due(sentence + ": behind TERM", broken.would(4, 0, 1), NONE);
    }

    private static void wouldValue() {
        taken("16: the MONTH of would(), from the last VALUE on", (x, n) -> x.would(0, n, 1), 26, 239, NONE);
        taken("16: the MONTH of would(), to the first VALUE", (x, n) -> n > 25 && n < 240 ? NONE : x.would(0, n, 1), 0, 9, NONE);
        taken("16: the VALUE of would()", (x, n) -> x.would(0, 0, n), 1, 9999, NONE);
        check.due("16: it has one", five().would(0, 10, 1), NONE);
        check.due("16: it has one, the last", five().would(0, 25, 1), NONE);
        check.due("16: it has one that is not KNOWN", at(10, FIVE.replace("25 200 0", "25 200 239")).would(0, 25, 1), NONE);
        // REVIEW 1 of the LEASE by index: 100 times VALUE by 100.
        RentReview x = at(15, FIVE);
        check.due("16: VALUE 1", x.would(1, 15, 1), 1);
        check.due("16: VALUE 9999", x.would(1, 15, 9999), 9999);
        check.due("16: a VALUE that is between", x.would(1, 20, 300), 200);
        check.due("16: a VALUE that matters not", x.would(1, 239, 300), 133);
        check.due("16: as KNOWN without it", x.rent(1, 15, 15), 133);
        String late = "rate 0;index 0 100 0;index 9 300 7;lease 0 20 100 4 0;by index 0;";
        // In 6 the VALUE of 9 is not KNOWN, in 7 it is.
        check.due("16: as KNOWN NOW", at(6, late).would(0, 239, 5), 99);
        check.due("16: as KNOWN NOW", at(7, late).would(0, 239, 5), 188);
    }

    private static RentReview withForty(String text, int month) {
        RentReview x = at(month, text);
        for (int told = 200; x.now(3) < 40; told--) {
            x.publish(told, 7);
        }
        return x;
    }

    private static void wouldFirstThatIsSo() {
        RentReview x = withForty(FIVE, 12);
        check.due("16: there are 40", x.would(0, 0, 1), -2);
        check.due("16: there are 40, the last", x.would(0, 239, 9999), -2);
        check.due("16: no such LEASE, and there are 40", x.would(5, 0, 1), NONE);
        check.due("16: no such LEASE, and there are 40", x.would(-1, 0, 1), NONE);
        check.due("16: another MONTH, and there are 40", x.would(0, 240, 1), NONE);
        check.due("16: another MONTH, and there are 40", x.would(0, -1, 1), NONE);
        check.due("16: another VALUE, and there are 40", x.would(0, 0, 0), NONE);
        check.due("16: another VALUE, and there are 40", x.would(0, 0, 10000), NONE);
        check.due("16: it has one, and there are 40", x.would(0, 10, 1), NONE);
        check.due("16: NOW is ahead of it, and there are 40", withForty(FIVE, 9).would(0, 0, 1), NONE);
        check.due("16: NOW is behind it, and there are 40", withForty(FIVE, 30).would(0, 0, 1), NONE);
        x.undo();
        check.due("16: there are 39", x.would(0, 0, 1), 100);
    }

    private static void wouldTellsNothing() {
        RentReview x = at(15, FIVE);
        check.due("16: would()", x.would(1, 15, 500), 500);
        check.due("16: would() again", x.would(1, 15, 500), 500);
        check.due("16: VALUES", x.now(3), 2);
        check.due("16: INDEX", x.index(15, 239), 133);
        check.due("16: what can be undone", x.now(4), 1);
        check.due("16: RENT", x.rent(1, 15, 239), 133);
        check.due("16: publish() of the same", x.publish(15, 500), 3);
        check.due("16: RENT is as it would be", x.rent(1, 15, 15), 500);
    }

    private static void publish() {
        taken("17: the MONTH of publish(), from the last VALUE on", (x, n) -> x.publish(n, 1), 26, 239, NONE);
        taken("17: the MONTH of publish(), to the first VALUE", (x, n) -> n > 25 && n < 240 ? NONE : x.publish(n, 1), 0, 9, NONE);
        taken("17: the VALUE of publish()", (x, n) -> x.publish(0, n), 1, 9999, NONE);
        RentReview x = new RentReview();
        check.due("17: the first MONTH, the least VALUE", x.publish(0, 1), 1);
        check.due("17: the last MONTH, the most", x.publish(239, 9999), 2);
        check.due("17: their VALUES", x.index(0, 0), 1);
        check.due("17: their VALUES", x.index(239, 0), 9999);
        check.due("17: it has one", x.publish(0, 2), NONE);
        check.due("17: it has one", x.publish(239, 9999), NONE);
        check.due("17: it has one between, which is none", x.publish(100, 2), 3);
        RentReview late = Check.deskOf("rate 0;index 7 70 239;");
        check.due("17: it has one that is not KNOWN", late.publish(7, 70), NONE);
        check.due("17: KNOWN from NOW on, of a MONTH ahead", at(239, "rate 0;").publish(0, 1), 1);
    }

    private static void publishFull() {
        RentReview x = new RentReview();
        for (int month = 0; month < 40; month++) {
            check.due("17: how many MONTHS have one", x.publish(month * 6, 5), month + 1);
        }
        check.due("17: there are 40", x.publish(1, 5), -2);
        check.due("17: there are 40, again", x.publish(239, 9999), -2);
        check.due("17: 40 stay", x.now(3), 40);
        check.due("17: none came", x.index(239, 0), NONE);
        x.undo();
        check.due("17: there are 39", x.publish(239, 5), 40);
        check.due("17: there are 40", x.publish(234, 5), -2);
        StringBuilder lines = new StringBuilder("rate 0;");
        for (int month = 0; month < 20; month++) {
            lines.append("index ").append(month).append(" 5 239;");
        }
        RentReview y = Check.deskOf(lines.toString());
        for (int month = 20; month < 40; month++) {
            check.due("17: behind 20 of the TEXT", y.publish(month, 5), month + 1);
        }
        check.due("17: there are 40, KNOWN or not", y.publish(40, 5), -2);
        Check.tell(y, "rate 0;");
        check.due("17: none with a new TEXT", y.publish(40, 5), 1);
    }

    private static void publishFirstThatIsSo() {
        RentReview x = withForty("rate 0;index 10 100 0;", 0);
        check.due("17: another MONTH, and there are 40", x.publish(-1, 1), NONE);
        check.due("17: another MONTH, and there are 40", x.publish(240, 1), NONE);
        check.due("17: another VALUE, and there are 40", x.publish(0, 0), NONE);
        check.due("17: another VALUE, and there are 40", x.publish(0, 10000), NONE);
        check.due("17: it has one, and there are 40", x.publish(10, 1), NONE);
        check.due("17: it has one, and there are 40", x.publish(200, 1), NONE);
        check.due("17: there are 40", x.publish(0, 1), -2);
        check.due("17: there are 40", x.publish(239, 9999), -2);
    }

    private static void market() {
        taken("18: the r of market()", (x, n) -> x.market(2, n, 5), 1, 3, NONE);
        taken("18: the number of market()", (x, n) -> x.market(2, 1, n), 1, 99999, NONE);
        taken("18: the LEASE of market()", (x, n) -> x.market(n, 1, 5), 2, 2, NONE);
        RentReview x = Check.deskOf("rate 0;lease 0 120 5 1 0;by market;lease 0 120 5 60 0;by market;lease 0 2 5 2 0;by market;");
        check.due("18: its MONTH, the first", x.market(0, 1, 1), 1);
        check.due("18: its MONTH, the last", x.market(0, 119, 99999), 119);
        check.due("18: one more", x.market(0, 120, 5), NONE);
        check.due("18: its MONTH", x.market(1, 1, 5), 60);
        check.due("18: one more", x.market(1, 2, 5), NONE);
        check.due("18: a LEASE without REVIEWS", x.market(2, 1, 5), NONE);
        check.due("18: it was told", x.market(0, 1, 1), NONE);
        check.due("18: it was told, the last", x.market(0, 119, 5), NONE);
        check.due("18: another was not", x.market(0, 118, 5), 118);
        check.due("18: the least is KNOWN", x.review(0, 1, 0, 2), 1);
        check.due("18: the most is KNOWN", x.review(0, 119, 0, 2), 99999);
        check.due("18: no LEASES", new RentReview().market(0, 1, 1), NONE);
    }

    private static void marketOfAnother() {
        RentReview x = five();
        for (int lease : new int[] {0, 1, 3, 4}) {
            check.due("18: a LEASE not by 'market'", x.market(lease, 1, 5), NONE);
        }
        check.due("18: told behind its MONTH", at(239, FIVE).market(2, 3, 5), 25);
        RentReview broken = five();
        broken.breaks(2);
        check.due("18: told behind END", broken.market(2, 3, 5), 25);
        check.due("18: undone, told again", broken.undo() == 2 && broken.market(2, 3, 6) == 25, true);
    }

    private static void turnover() {
        taken("19: the MONTH of turnover()", (x, n) -> x.turnover(3, n, 5) ? 1 : 0, 10, 29, 0);
        taken("19: the number of turnover()", (x, n) -> x.turnover(3, 10, n) ? 1 : 0, 0, 999999, 0);
        taken("19: the LEASE of turnover()", (x, n) -> x.turnover(n, 10, 5) ? 1 : 0, 3, 3, 0);
        RentReview x = Check.deskOf("rate 0;lease 119 120 5 1 0;by turnover 999;");
        check.due("19: ahead of START", x.turnover(0, 118, 5), false);
        check.due("19: START", x.turnover(0, 119, 0), true);
        check.due("19: the last", x.turnover(0, 238, 999999), true);
        check.due("19: START and TERM", x.turnover(0, 239, 5), false);
        check.due("19: 0 was told", x.turnover(0, 119, 5), false);
        check.due("19: it was told", x.turnover(0, 238, 999999), false);
        check.due("19: another was not", x.turnover(0, 237, 999999), true);
        check.due("19: it is KNOWN", x.rent(0, 238, 0), 998999);
        check.due("19: no LEASES", new RentReview().turnover(0, 0, 0), false);
    }

    private static void turnoverOfAnother() {
        RentReview x = five();
        for (int lease : new int[] {0, 1, 2, 4}) {
            check.due("19: a LEASE not by 'turnover'", x.turnover(lease, 10, 5), false);
        }
        check.due("19: told far behind its MONTH", at(239, FIVE).turnover(3, 10, 5), true);
        RentReview broken = five();
        broken.breaks(3);
        check.due("19: told behind END", broken.turnover(3, 29, 5), true);
        check.due("19: undone, told again", broken.undo() == 2 && broken.turnover(3, 29, 6), true);
    }

    private static void toldInTheLastMonth() {
        RentReview x = at(239, FIVE);
        check.due("18: told in 239", x.market(2, 1, 5), 15);
        check.due("18: it was told in 239", x.market(2, 1, 5), NONE);
        check.due("19: told in 239", x.turnover(3, 10, 0), true);
        check.due("19: it was told in 239", x.turnover(3, 10, 0), false);
        check.due("17: told in 239", x.publish(239, 5), 3);
        check.due("17: it has one, told in 239", x.publish(239, 5), NONE);
        x.undo();
        x.undo();
        x.undo();
        check.due("18: undone, told again in 239", x.market(2, 1, 6), 15);
        check.due("18: KNOWN in 239", x.rent(2, 15, 239), 6);
        check.due("18: not KNOWN in 238", x.rent(2, 15, 238), 100);
    }

    private static void breaks() {
        taken("20: the LEASE of breaks()", (x, n) -> x.breaks(n), 0, 4, NONE);
        check.due("20: no LEASES", new RentReview().breaks(0), NONE);
        check.due("20: it has none", Check.deskOf("rate 0;lease 0 9 1 1 0;").breaks(0), NONE);
        check.due("20: in MONTH 0", Check.deskOf(FIVE).breaks(0), 20);
        check.due("20: one MONTH ahead of it", at(19, FIVE).breaks(0), 20);
        check.due("20: that MONTH is NOW", at(20, FIVE).breaks(0), NONE);
        check.due("20: that MONTH is ahead of NOW", at(21, FIVE).breaks(0), NONE);
        check.due("20: in MONTH 239", at(239, FIVE).breaks(0), NONE);
        String first = "rate 0;lease 0 2 1 1 0;break 1;";
        check.due("20: the first there can be", Check.deskOf(first).breaks(0), 1);
        check.due("20: the first there can be, too late", at(1, first).breaks(0), NONE);
    }

    private static void breaksTaken() {
        RentReview x = five();
        check.due("20: taken", x.breaks(0), 20);
        check.due("20: it was taken", x.breaks(0), NONE);
        check.due("20: another was not", x.breaks(1), 20);
        x.pass(1);
        check.due("20: it was taken, in a MONTH ahead", x.breaks(0), NONE);
        x.undo();
        x.undo();
        check.due("20: undone, it can be taken", x.breaks(1), 20);
        check.due("20: the other was taken", x.breaks(0), NONE);
    }

    private static void pass() {
        taken("21: pass()", (x, n) -> x.pass(n), 1, 99, NONE);
        RentReview x = new RentReview();
        check.due("21: 1", x.pass(1), 1);
        check.due("21: 99", x.pass(99), 100);
        check.due("21: 0", x.pass(0), NONE);
        check.due("21: 100", x.pass(100), NONE);
        check.due("21: NOW", x.now(0), 100);
    }

    private static void passTo239() {
        RentReview x = at(140, "rate 0;");
        check.due("21: 239 by 99", x.pass(99), 239);
        x.undo();
        x.pass(1);
        check.due("21: 240 by 99", x.pass(99), NONE);
        check.due("21: 239 by 98", x.pass(98), 239);
        check.due("21: 240 by 1", x.pass(1), NONE);
        check.due("21: NOW stays", x.now(0), 239);
        RentReview last = at(238, "rate 0;");
        check.due("21: 240 by 2", last.pass(2), NONE);
        check.due("21: 239 by 1", last.pass(1), 239);
        for (int months : new int[] {0, 1, 99, 100, MIN, MAX, MAX - 238, MIN + 99}) {
            check.due("21: pass(" + months + ") in 239", last.pass(months), NONE);
        }
        check.due("21: MONTH 0 by a new TEXT alone", Check.tell(last, "rate 0;"), 0);
        check.due("21: MONTH 0", last.now(0), 0);
    }

    private static void undoKeeps10() {
        for (int acts = 8; acts <= 13; acts++) {
            RentReview x = new RentReview();
            for (int i = 0; i < acts; i++) {
                x.pass(1);
            }
            int kept = Math.min(acts, 10);
            check.due("22: what can be undone of " + acts, x.now(4), kept);
            for (int more = kept - 1; more >= 0; more--) {
                check.due("22: how many more of " + acts, x.undo(), more);
                check.due("22: what can be undone", x.now(4), more);
            }
            check.due("22: none is, of " + acts, x.undo(), NONE);
            check.due("22: the first stay", x.now(0), acts - kept);
        }
        RentReview again = new RentReview();
        for (int i = 0; i < 11; i++) {
            again.publish(i, 5);
        }
        check.due("22: undone and done again", again.undo(), 9);
        again.pass(3);
        check.due("22: 10 are kept", again.now(4), 10);
        again.pass(4);
        check.due("22: 10 are kept", again.now(4), 10);
        check.due("22: the latest first", again.undo() == 9 && again.now(0) == 3, true);
        for (int i = 0; i < 9; i++) {
            again.undo();
        }
        check.due("22: the first stay", again.now(3), 2);
    }

    /** Each of the acts is another, so that each that is kept must be the right one. */
    private static void undoOfTheTenLatest() {
        String text = "rate 0;lease 0 20 100 2 0;by market;break 9;lease 0 20 100 2 0;by market;break 8;"
            + "lease 0 20 100 1 0;by turnover 500;";
        RentReview x = Check.deskOf(text);
        x.publish(7, 70);
        x.market(1, 2, 222);
        x.pass(1);
        x.breaks(1);
        x.market(0, 3, 333);
        x.pass(2);
        x.turnover(2, 5, 900);
        x.publish(9, 90);
        x.breaks(0);
        x.market(1, 5, 555);
        x.turnover(2, 7, 1100);
        x.publish(11, 110);
        x.pass(3);
        check.due("22: 10 of 13 are kept", x.now(4), 10);
        // What each undo() takes back: NOW, VALUES, END of both, RENT of three.
        int[][] want = {
            {3, 3, 9, 8, 333, 555, 450, 550}, {3, 2, 9, 8, 333, 555, 450, 550}, {3, 2, 9, 8, 333, 555, 450, 450},
            {3, 2, 9, 8, 333, 222, 450, 450}, {3, 2, 20, 8, 333, 222, 450, 450}, {3, 1, 20, 8, 333, 222, 450, 450},
            {3, 1, 20, 8, 333, 222, 100, 100}, {1, 1, 20, 8, 333, 222, 100, 100}, {1, 1, 20, 8, 100, 222, 100, 100},
            {1, 1, 20, 20, 100, 222, 100, 100}};
        for (int i = 0; i < want.length; i++) {
            check.due("22: undo() " + i, x.undo(), 9 - i);
            int[] got = {x.now(0), x.now(3), x.lease(0, 6), x.lease(1, 6), x.rent(0, 6, 239), x.rent(1, 10, 239),
                x.rent(2, 6, 239), x.rent(2, 8, 239)};
            for (int what = 0; what < got.length; what++) {
                check.due("22: behind undo() " + i + ", thing " + what, got[what], want[i][what]);
            }
        }
        check.due("22: the first 3 are not kept", x.undo(), NONE);
        check.due("22: NOW", x.now(0), 1);
        check.due("22: VALUES", x.now(3), 1);
    }

    private static void undoOfEach() {
        RentReview x = five();
        x.publish(15, 500);
        check.due("22: publish() done", x.rent(1, 15, 12), 500);
        check.due("22: publish()", x.undo(), 1);
        check.due("22: publish() undone", x.rent(1, 15, 12), 133);
        check.due("22: VALUES", x.now(3), 2);
        x.market(2, 1, 500);
        check.due("22: market() done", x.rent(2, 15, 12), 500);
        check.due("22: market()", x.undo(), 1);
        check.due("22: market() undone", x.rent(2, 15, 12), 100);
        for (int month = 10; month < 15; month++) {
            x.turnover(3, month, 1000);
        }
        check.due("22: turnover() done", x.rent(3, 15, 12), 500);
        check.due("22: turnover()", x.undo(), 5);
        check.due("22: turnover() undone", x.rent(3, 15, 12), 100);
        x.breaks(4);
        check.due("22: breaks() done", x.billed(4, 20), NONE);
        check.due("22: breaks()", x.undo(), 5);
        check.due("22: breaks() undone", x.billed(4, 20), 102);
        x.pass(99);
        check.due("22: pass() done", x.now(0), 111);
        check.due("22: pass()", x.undo(), 5);
        check.due("22: pass() undone", x.now(0), 12);
    }

    private static void undoNone() {
        check.due("22: none of a new object", new RentReview().undo(), NONE);
        RentReview x = Check.deskOf(FIVE);
        check.due("22: none of a new TEXT", x.undo(), NONE);
        x.pass(1);
        check.due("22: the only one", x.undo(), 0);
        check.due("22: none is left", x.undo(), NONE);
        check.due("22: undo() can not be undone", x.now(0), 0);
        x.pass(2);
        Check.tell(x, "rate");
        check.due("22: a FAULT leaves it", x.undo(), 0);
        x.pass(2);
        Check.tell(x, "rate 0;");
        check.due("22: a new TEXT does not", x.undo(), NONE);
    }

    /** Only publish(), market(), turnover(), breaks(), pass() that were done are acts. */
    private static void undoLeavesWhatIsNotAnAct() {
        RentReview x = five();
        x.pass(1);
        x.publish(10, 1);
        x.market(2, 4, 1);
        x.turnover(3, 30, 1);
        x.breaks(5);
        x.pass(100);
        x.would(1, 15, 7);
        x.feed(1, 2, 3, 4, 5);
        x.end(7);
        check.due("22: what can be undone", x.now(4), 2);
        check.due("22: the pass() ahead of them", x.undo(), 1);
        check.due("22: NOW", x.now(0), 12);
        check.due("22: the tape stays", x.now(5), 7);
        x.end(0);
        check.due("22: the tape's end is no act", x.now(5), 0);
    }
}
