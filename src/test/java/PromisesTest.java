/** Each promise of the document: ordinary inputs, the edges it names, wrong inputs. */
public final class PromisesTest {
    private static final Check check = new Check();
    private static final int REFUSED = Check.REFUSED;
    private static final int NONE = RentReview.NONE;

    public static void main(String[] args) {
        newObject();
        feed();
        end();
        textOfLeases();
        textReplacesAll();
        tokens();
        faultsOfTokens();
        faultsOfNumbers();
        faultsOfLinesAndParts();
        faultsBehindTheMost();
        now();
        lease();
        index();
        rent();
        reviewByIndex();
        reviewByMarket();
        reviewByTurnover();
        reviewByStep();
        reviewHeld();
        reviewRefused();
        billed();
        truedAndInterest();
        spread();
        ahead();
        would();
        publish();
        market();
        turnover();
        breaks();
        pass();
        undo();
        check.finish();
    }

    private static void newObject() {
        RentReview x = new RentReview();
        for (int what = 0; what <= 5; what++) {
            check.due("1: now(" + what + ")", x.now(what), 0);
        }
        check.due("1: fault()", x.fault(), 0);
        check.due("1: lease(0, 0)", Check.lease(x, 0, 0), Check.THROWN);
        check.due("1: index(0, 239)", x.index(0, 239), NONE);
        check.due("1: NONE", RentReview.NONE, -1);
    }

    private static void feed() {
        RentReview x = new RentReview();
        // "rate 7;" and 13 blanks: the highest byte of each number stands first.
        check.due("2: feed", x.feed(0x72617465, 0x20373b20, 0x20202020, 0x20202020, 0x20202020), 20);
        check.due("2: text()", x.text(), 0);
        check.due("2: now(1)", x.now(1), 7);
        for (int i = 1; i <= 32; i++) {
            check.due("2: feed " + i, x.feed(-1, -1, -1, -1, -1), 20 * i);
        }
        check.due("2: feed beyond 640", x.feed(0, 0, 0, 0, 0), NONE);
        check.due("2: now(5)", x.now(5), 640);
        x.end(621);
        check.due("2: feed to 641", x.feed(0, 0, 0, 0, 0), NONE);
        check.due("2: now(5)", x.now(5), 621);
        x.end(620);
        check.due("2: feed to 640", x.feed(0, 0, 0, 0, 0), 640);
    }

    private static void end() {
        RentReview x = new RentReview();
        check.due("3: end(0) of none", x.end(0), true);
        check.due("3: end(1) of none", x.end(1), false);
        Check.feed(x, "rate 12;");
        check.due("3: end(9)", x.end(9), false);
        check.due("3: end(-1)", x.end(-1), false);
        check.due("3: end(MIN)", x.end(Integer.MIN_VALUE), false);
        check.due("3: end(MAX)", x.end(Integer.MAX_VALUE), false);
        check.due("3: now(5)", x.now(5), 8);
        check.due("3: end(8)", x.end(8), true);
        check.due("3: end(6)", x.end(6), true);
        check.due("3: now(5)", x.now(5), 6);
        Check.feed(x, ";");
        check.due("3: text() of the rest", x.text(), 0);
        check.due("3: now(1)", x.now(1), 1);
    }

    private static void textOfLeases() {
        RentReview x = new RentReview();
        check.due("4: text()", Check.tell(x, "rate 500;lease 119 120 99999 60 120;lease 0 1 1 1 0;"), 2);
        check.due("4: now(5)", x.now(5), 0);
        check.due("4: no LEASES", Check.tell(x, "rate 0;"), 0);
        check.due("4: now(2)", x.now(2), 0);
        check.due("4: most LEASES", Check.tell(x, "rate 0;" + "lease 0 1 1 1 0;".repeat(6)), 6);
        StringBuilder lines = new StringBuilder("rate 0;");
        for (int month = 220; month < 240; month++) {
            lines.append("index ").append(month).append(" 9999 239;");
        }
        check.due("4: most LINES", Check.tell(x, lines.toString()), 0);
        check.due("4: now(3)", x.now(3), 20);
        String parts = "upward;break 2;overall 0 999;collar 999 0;by index 12;";
        check.due("4: all PARTS", Check.tell(x, "rate 0;lease 1 3 1 1 3;" + parts + "lease 0 9 1 1 0;" + parts), 2);
    }

    private static void textReplacesAll() {
        RentReview x = Check.deskOf("rate 9;index 3 30 0;lease 0 9 100 3 0;by market;break 8;");
        x.pass(5);
        x.market(0, 1, 200);
        x.breaks(0);
        check.due("4: a FAULT", Check.tell(x, "rate 1;index 4 40 0;lease 0 1 1 1 0;by"), -1 - 38);
        check.due("4: the tape is empty", x.now(5), 0);
        check.due("4: NOW stays", x.now(0), 5);
        check.due("4: R stays", x.now(1), 9);
        check.due("4: LEASES stay", x.now(2), 1);
        check.due("4: VALUES stay", x.index(3, 0), 30);
        check.due("4: no VALUE comes", x.index(4, 239), NONE);
        check.due("4: acts stay", x.now(4), 3);
        check.due("4: what was told stays", x.rent(0, 3, 5), 200);
        check.due("4: END stays", x.lease(0, 6), 8);
        check.due("4: a new TEXT", Check.tell(x, "rate 1;lease 0 9 100 3 0;by market;break 8;"), 1);
        check.due("4: NOW", x.now(0), 0);
        check.due("4: R", x.now(1), 1);
        check.due("4: VALUES", x.now(3), 0);
        check.due("4: acts", x.now(4), 0);
        check.due("4: undo()", x.undo(), NONE);
        check.due("4: nothing told", x.rent(0, 3, 239), 100);
        check.due("4: END", x.lease(0, 6), 9);
        check.due("4: market() anew", x.market(0, 1, 300), 3);
    }

    private static void fault(String text, int place, int kind) {
        RentReview x = new RentReview();
        String shown = text.length() > 60 ? ".." + text.substring(text.length() - 60) : text;
        check.due("5: text() of " + shown, Check.tell(x, text), -1 - place);
        check.due("5: fault() of " + shown, x.fault(), kind);
        check.due("5: LEASES of " + shown, x.now(2), 0);
        check.due("5: text() behind it", Check.tell(x, "rate 3;lease 0 1 1 1 0;"), 1);
        check.due("5: fault() behind it", x.fault(), 0);
    }

    private static void tokens() {
        RentReview x = new RentReview();
        check.due("4: blanks", Check.tell(x, "\n rate\n\n00042 ; lease\n0 1\n1 1 0\n;\n \n"), 1);
        check.due("4: now(1)", x.now(1), 42);
        check.due("4: few blanks", Check.tell(x, "rate 1;lease 0 9 7 1 0;by step 5;collar 1 2;upward;"), 1);
        fault("rate1;", 0, 1);
        fault("gate 1;", 0, 1);
        fault("ratz 1;", 0, 1);
        fault("rates 1;", 0, 1);
        fault("rate z;", 5, 1);
        fault("rate {;", 5, 1);
        fault("rate `;", 5, 1);
        fault("rate /;", 5, 1);
        fault("rate :;", 5, 1);
        fault("rate 1a;", 5, 1);
        fault("rate 000001;", 5, 1);
        fault("rate 123456;", 5, 1);
        fault("rate 99999;", 5, 2);
        fault("Rate 1;", 0, 1);
        fault("rate\t1;", 4, 1);
        fault("rate 1,", 6, 1);
        fault("rate 1;" + (char) 233, 7, 1);
        fault("rate 1;" + (char) 0, 7, 1);
        fault("rate 1;lease0 1 1 1 0;", 7, 1);
        fault("rate 1;lease 0 1 1 1 0;upwards;", 23, 1);
        fault("rate 1;lease 0 1 1 1 0;upwar;", 23, 1);
    }

    private static void faultsOfTokens() {
        fault("", 0, 1);
        fault("   ", 3, 1);
        fault("rat 0;", 0, 1);
        fault(";", 0, 1);
        fault("7;", 0, 1);
        fault("rate;", 4, 1);
        fault("rate rate;", 5, 1);
        fault("rate 0", 6, 1);
        fault("rate 0 \n", 8, 1);
        fault("rate 0 0;", 7, 1);
        fault("rate 0;;", 7, 1);
        fault("rate 0;rate 0;", 7, 1);
        fault("rate 0;by market;", 7, 1);
        fault("rate 0;index 1 1;", 16, 1);
        fault("rate 0;index 1 1 1", 18, 1);
        fault("rate 0;lease 0 1 1 1;", 20, 1);
        fault("rate 0;lease 0 1 1 1 0;index 1 1 1;", 23, 1);
        fault("rate 0;lease 0 1 1 1 0;by lease;", 26, 1);
        fault("rate 0;lease 0 1 1 1 0;by index;", 31, 1);
        fault("rate 0;lease 0 1 1 1 0;by market 1;", 33, 1);
        fault("rate 0;lease 0 1 1 1 0;by turnover;", 34, 1);
        fault("rate 0;lease 0 1 1 1 0;by step;", 30, 1);
        fault("rate 0;lease 0 1 1 1 0;collar 1;", 31, 1);
        fault("rate 0;lease 0 1 1 1 0;overall;", 30, 1);
        fault("rate 0;lease 0 1 1 1 0;upward 1;", 30, 1);
        fault("rate 0;lease 0 2 1 1 0;break;", 28, 1);
        fault("rate 0;lease 0 1 1 1 0;market;", 23, 1);
        fault("rate 0;lease 0 1 1 1 0;1;", 23, 1);
    }

    private static void faultsOfNumbers() {
        fault("rate 501;", 5, 2);
        fault("rate 501;%", 5, 2);
        fault("rate 0;index 240 1 0;", 13, 2);
        fault("rate 0;index 0 0 0;", 15, 2);
        fault("rate 0;index 0 10000 0;", 15, 2);
        fault("rate 0;index 0 1 240;", 17, 2);
        fault("rate 0;index 7 1 0;index 8 1 0;index 007 2 0;", 37, 2);
        fault("rate 0;lease 120 1 1 1 0;", 13, 2);
        fault("rate 0;lease 0 0 1 1 0;", 15, 2);
        fault("rate 0;lease 0 121 1 1 0;", 15, 2);
        fault("rate 0;lease 0 1 0 1 0;", 17, 2);
        fault("rate 0;lease 0 1 1 0 0;", 19, 2);
        fault("rate 0;lease 0 1 1 61 0;", 19, 2);
        fault("rate 0;lease 0 4 1 1 5;", 21, 2);
        fault("rate 0;lease 0 1 1 1 0;by index 13;", 32, 2);
        fault("rate 0;lease 0 1 1 1 0;by turnover 1000;", 35, 2);
        fault("rate 0;lease 0 1 1 1 0;by step 1000;", 31, 2);
        fault("rate 0;lease 0 1 1 1 0;collar 1000 0;", 30, 2);
        fault("rate 0;lease 0 1 1 1 0;collar 0 1000;", 32, 2);
        fault("rate 0;lease 0 1 1 1 0;overall 1000 0;", 31, 2);
        fault("rate 0;lease 0 1 1 1 0;overall 0 1000;", 33, 2);
        fault("rate 0;lease 5 4 1 1 0;break 5;", 29, 2);
        fault("rate 0;lease 5 4 1 1 0;break 9;", 29, 2);
        fault("rate 0;lease 5 1 1 1 0;break 6;", 29, 2);
    }

    private static void faultsOfLinesAndParts() {
        StringBuilder lines = new StringBuilder("rate 0;");
        for (int month = 10; month < 30; month++) {
            lines.append("index ").append(month).append(" 1 0;");
        }
        int behind = lines.length();
        fault(lines + "index 30 1 0;", behind, 3);
        fault(lines + "index index", behind, 3);
        fault(lines + "lease 0 1 1 1 0;index 30 1 0;", behind + 16, 1);
        String leases = "rate 0;" + "lease 0 2 1 1 0;".repeat(6);
        fault(leases + "lease 0 2 1 1 0;", leases.length(), 3);
        fault(leases + "upward;lease", leases.length() + 7, 3);
        String one = "rate 0;lease 0 2 1 1 0;";
        fault(one + "by market;by step 1;", 33, 4);
        fault(one + "collar 0 0;collar 0 0;", 34, 4);
        fault(one + "overall 0 0;upward;overall", 42, 4);
        fault(one + "upward;upward;", 30, 4);
        fault(one + "break 1;break 1;", 31, 4);
        fault(one + "by market;collar 0 0;overall 0 0;upward;break 1;by market;", 71, 4);
    }

    private static void faultsBehindTheMost() {
        RentReview x = new RentReview();
        String whole = "rate 0;lease 0 1 1 1 0;";
        check.due("4: 600 bytes", Check.tell(x, whole + " ".repeat(600 - whole.length())), 1);
        fault(whole + " ".repeat(601 - whole.length()), 600, 1);
        fault(whole + " ".repeat(640 - whole.length()), 600, 1);
        fault(" ".repeat(601), 600, 1);
        fault("rate 0" + " ".repeat(594), 600, 1);
        fault("rate 0" + " ".repeat(593), 599, 1);
        fault(whole + " ".repeat(620 - whole.length()) + "%", 600, 1);
        fault(" ".repeat(600) + "%", 600, 1);
        fault(" ".repeat(599) + "%%", 599, 1);
        // A TOKEN that begins ahead of 600 is read whole.
        fault(" ".repeat(598) + "rate 0;", 600, 1);
        fault(" ".repeat(598) + "rat 0;", 598, 1);
        fault("rate " + " ".repeat(593) + "500;", 600, 1);
        fault("rate " + " ".repeat(593) + "501;", 598, 2);
        fault("rate " + " ".repeat(593) + "123456;", 598, 1);
        fault("rate " + " ".repeat(593) + "12x;", 598, 1);
        fault(whole + "upward;" + " ".repeat(569) + "upward;", 599, 4);
    }

    private static void now() {
        RentReview x = Check.deskOf("rate 17;index 9 5 239;index 8 5 0;lease 0 1 1 1 0;");
        x.pass(4);
        x.publish(2, 2);
        Check.feed(x, "rate 0;");
        int[] want = {4, 17, 1, 3, 2, 7};
        for (int what = 0; what <= 5; what++) {
            check.due("6: now(" + what + ")", x.now(what), want[what]);
        }
        check.due("6: now(-1)", x.now(-1), NONE);
        check.due("6: now(6)", x.now(6), NONE);
        check.due("6: now(MIN)", x.now(Integer.MIN_VALUE), NONE);
    }

    private static void lease() {
        RentReview x = Check.deskOf("rate 0;lease 3 20 1234 7 5;break 9;lease 4 22 9 7 0;by index 0;"
                + "lease 4 21 9 7 0;by market;lease 0 5 9 7 0;by turnover 1;lease 0 120 9 1 0;by step 1;");
        int[] want = {3, 20, 1234, 7, 5, 0, 23, 0};
        for (int what = 0; what <= 7; what++) {
            check.due("7: lease(0, " + what + ")", Check.lease(x, 0, what), want[what]);
        }
        int[] reviews = {0, 3, 2, 0, 119};
        for (int lease = 0; lease < 5; lease++) {
            check.due("7: how it is reviewed", Check.lease(x, lease, 5), lease);
            check.due("7: how many REVIEWS", Check.lease(x, lease, 7), reviews[lease]);
        }
        x.pass(2);
        x.breaks(0);
        check.due("7: END", Check.lease(x, 0, 6), 9);
        check.due("7: TERM", Check.lease(x, 0, 1), 20);
        check.due("7: lease(-1, 0)", Check.lease(x, -1, 0), Check.THROWN);
        check.due("7: lease(5, 0)", Check.lease(x, 5, 0), Check.THROWN);
        check.due("7: lease(0, -1)", Check.lease(x, 0, -1), Check.THROWN);
        check.due("7: lease(0, 8)", Check.lease(x, 0, 8), Check.THROWN);
        check.due("7: lease(MIN, MAX)", Check.lease(x, Integer.MIN_VALUE, Integer.MAX_VALUE), Check.THROWN);
    }

    private static void index() {
        RentReview x = Check.deskOf("rate 0;index 2 100 1;index 9 93 1;index 5 200 4;index 239 1 0;index 0 10 239;");
        check.due("8: its VALUE", x.index(2, 1), 100);
        check.due("8: not KNOWN", x.index(2, 0), NONE);
        check.due("8: between", x.index(4, 1), 98);
        check.due("8: cut towards 0", x.index(6, 4), 200 - 26);
        check.due("8: a VALUE not KNOWN yet", x.index(5, 3), 97);
        check.due("8: KNOWN later", x.index(5, 4), 200);
        check.due("8: none on one side", x.index(1, 238), NONE);
        check.due("8: both sides at the end", x.index(1, 239), 55);
        check.due("8: the last MONTH", x.index(239, 0), 1);
        check.due("8: none ahead of it", x.index(238, 0), NONE);
        check.due("8: index(-1, 0)", x.index(-1, 239), NONE);
        check.due("8: index(240, 0)", x.index(240, 239), NONE);
        check.due("8: index(2, -1)", x.index(2, -1), NONE);
        check.due("8: index(2, 240)", x.index(2, 240), NONE);
    }

    private static void rent() {
        RentReview x = Check.deskOf("rate 0;lease 10 10 1000 4 8;by step 100;break 12;lease 0 5 77 1 0;");
        check.due("9: at START", x.rent(0, 10, 0), 1000);
        check.due("9: ahead of a REVIEW", x.rent(0, 13, 0), 1000);
        check.due("9: from a REVIEW on", x.rent(0, 14, 0), 1100);
        check.due("9: at the last MONTH", x.rent(0, 19, 239), 1210);
        x.breaks(0);
        check.due("9: behind END", x.rent(0, 19, 239), 1210);
        check.due("9: ahead of START", x.rent(0, 9, 0), NONE);
        check.due("9: behind TERM", x.rent(0, 20, 0), NONE);
        check.due("9: known -1", x.rent(0, 10, -1), NONE);
        check.due("9: known 240", x.rent(0, 10, 240), NONE);
        check.due("9: no LEASE", x.rent(2, 10, 0), NONE);
        check.due("9: no LEASE", x.rent(-1, 10, 0), NONE);
        check.due("9: no REVIEWS", x.rent(1, 4, 0), 77);
    }

    private static void reviewByIndex() {
        RentReview x = Check.deskOf("rate 0;index 2 700 3;index 8 710 9;index 14 650 15;"
                + "lease 4 24 1000 6 0;by index 2;lease 1 24 1000 6 0;by index 2;lease 0 3 99999 1 0;by index 0;");
        check.due("10: not KNOWN yet", x.review(0, 1, 8, 1), NONE);
        check.due("10: WANTED", x.review(0, 1, 9, 1), 1014);
        check.due("10: from RENT as told", x.review(0, 2, 15, 1), 928);
        check.due("10: RENT from it on", x.review(0, 2, 15, 2), 928);
        check.due("10: not KNOWN: RENT stays", x.review(0, 2, 14, 2), 1014);
        check.due("10: its MONTH", x.review(0, 2, 0, 0), 16);
        check.due("10: no 'overall'", x.review(0, 2, 15, 3), NONE);
        check.due("10: no 'overall'", x.review(0, 2, 15, 4), NONE);
        check.due("10: a MONTH below 0", x.review(1, 1, 239, 1), NONE);
        x.publish(0, 1);
        x.publish(1, 9999);
        check.due("10: WANTED is not held", x.review(2, 1, 0, 1), 999890001);
        check.due("10: RENT is", x.review(2, 1, 0, 2), 999999);
        RentReview low = Check.deskOf("rate 0;index 0 9999 0;index 1 1 0;lease 0 2 1 1 0;by index 0;");
        check.due("10: WANTED 0", low.review(0, 1, 0, 1), 0);
        check.due("10: RENT 1 at least", low.review(0, 1, 0, 2), 1);
    }

    private static void reviewByMarket() {
        RentReview x = Check.deskOf("rate 0;lease 0 12 500 3 0;by market;");
        x.pass(5);
        x.market(0, 3, 99999);
        check.due("10: not told", x.review(0, 1, 239, 1), NONE);
        check.due("10: RENT stays", x.review(0, 2, 239, 2), 500);
        check.due("10: told later", x.review(0, 3, 4, 1), NONE);
        check.due("10: told", x.review(0, 3, 5, 1), 99999);
        x.market(0, 1, 1);
        check.due("10: market of REVIEW 1", x.rent(0, 8, 5), 1);
    }

    private static void reviewByTurnover() {
        RentReview x = Check.deskOf("rate 0;lease 5 12 300 3 0;by turnover 333;lease 0 120 1 60 0;by turnover 999;");
        x.turnover(0, 8, 4000);
        x.turnover(0, 9, 0);
        check.due("10: one is not told", x.review(0, 2, 0, 1), NONE);
        x.pass(1);
        x.turnover(0, 10, 1007);
        check.due("10: not KNOWN then", x.review(0, 2, 0, 1), NONE);
        // 5007 times 333 by 1000 is 1667, by 3 is 555.
        check.due("10: each cut", x.review(0, 2, 1, 1), 555);
        check.due("10: REVIEW 1 has others", x.review(0, 1, 1, 1), NONE);
        x.turnover(0, 11, 5);
        x.turnover(0, 12, 5);
        x.turnover(0, 13, 5);
        check.due("10: RENT as told at least", x.review(0, 3, 1, 1), 300);
        check.due("10: RENT may go down", x.review(0, 3, 1, 2), 300);
        for (int month = 0; month < 60; month++) {
            x.turnover(1, month, 999999);
        }
        check.due("10: the most TURNOVER", x.review(1, 1, 1, 1), 998999);
    }

    private static void reviewByStep() {
        RentReview x = Check.deskOf("rate 0;lease 0 4 999 1 0;by step 1;lease 0 120 99999 1 0;by step 999;");
        check.due("10: a step, cut", x.review(0, 1, 0, 1), 999);
        check.due("10: a step above the most", x.review(1, 4, 0, 1), 1596785);
        check.due("10: RENT at most", x.review(1, 4, 0, 2), 999999);
        check.due("10: a step from the most", x.review(1, 119, 0, 1), 1998998);
    }

    private static void reviewHeld() {
        RentReview x = Check.deskOf("rate 0;"
                + "lease 0 9 1005 1 0;by market;collar 30 47;"
                + "lease 0 9 1005 1 0;by market;overall 30 47;"
                + "lease 0 9 1005 1 0;by market;upward;"
                + "lease 0 9 1005 1 0;by market;collar 30 47;overall 20 10;upward;"
                + "lease 0 9 3 1 0;by market;collar 999 999;overall 999 999;"
                + "lease 0 9 99999 1 0;by market;overall 0 999;");
        for (int lease = 0; lease < 5; lease++) {
            x.market(lease, 1, 1);
            x.market(lease, 3, 99999);
        }
        check.due("10: collar's floor", x.review(0, 1, 0, 2), 974);
        check.due("10: collar's cap", x.review(0, 3, 0, 2), 1019);
        check.due("10: no 'overall'", x.review(0, 1, 0, 3), NONE);
        check.due("10: the least", x.review(1, 1, 0, 3), 974);
        check.due("10: the most", x.review(1, 1, 0, 4), 1052);
        check.due("10: no less than the least", x.review(1, 1, 0, 2), 974);
        check.due("10: the least behind a REVIEW not KNOWN", x.review(1, 2, 0, 3), 944);
        check.due("10: the most behind a REVIEW not KNOWN", x.review(1, 3, 0, 4), 1152);
        check.due("10: no more than the most", x.review(1, 3, 0, 2), 1152);
        check.due("10: upward", x.review(2, 1, 0, 2), 1005);
        check.due("10: upward", x.review(2, 3, 0, 2), 99999);
        check.due("10: upward above the most", x.review(3, 1, 0, 2), 1005);
        check.due("10: 'overall' behind 'collar'", x.review(3, 3, 0, 2), 1035);
        check.due("10: 1 at least", x.review(4, 1, 0, 2), 1);
        check.due("10: the least may be 0", x.review(4, 1, 0, 3), 0);
        check.due("10: cut, then held", x.review(4, 3, 0, 2), 1);
        check.due("10: the most of 'overall' at most", x.review(5, 8, 0, 4), 999999);
    }

    private static void reviewRefused() {
        RentReview x = Check.deskOf("rate 0;lease 0 9 1005 2 0;by step 5;lease 0 9 1 1 0;");
        check.due("10: last REVIEW", x.review(0, 4, 0, 0), 8);
        check.due("10: r 5", x.review(0, 5, 0, 0), REFUSED);
        check.due("10: r 0", x.review(0, 0, 0, 0), REFUSED);
        check.due("10: r MIN", x.review(0, Integer.MIN_VALUE, 0, 0), REFUSED);
        check.due("10: not reviewed", x.review(1, 1, 0, 0), REFUSED);
        check.due("10: no LEASE", x.review(2, 1, 0, 0), REFUSED);
        check.due("10: known -1", x.review(0, 1, -1, 0), REFUSED);
        check.due("10: known 240", x.review(0, 1, 240, 0), REFUSED);
        check.due("10: what -1", x.review(0, 1, 0, -1), REFUSED);
        check.due("10: what 5", x.review(0, 1, 0, 5), REFUSED);
    }

    private static void billed() {
        RentReview x = Check.deskOf("rate 0;index 0 100 0;index 6 150 8;lease 3 6 200 3 2;by index 0;break 8;");
        x.publish(3, 100);
        check.due("11: ahead of START", x.billed(0, 2), NONE);
        check.due("11: FREE", x.billed(0, 4), 0);
        check.due("11: behind FREE", x.billed(0, 5), 200);
        check.due("11: REVIEW not KNOWN in it", x.billed(0, 7), 200);
        check.due("11: REVIEW KNOWN in it", x.billed(0, 8), 300);
        check.due("11: behind TERM", x.billed(0, 9), NONE);
        x.breaks(0);
        check.due("11: below END", x.billed(0, 7), 200);
        check.due("11: at END", x.billed(0, 8), NONE);
        check.due("11: no LEASE", x.billed(1, 3), NONE);
        check.due("11: MIN", x.billed(0, Integer.MIN_VALUE), NONE);
        check.due("11: MAX", x.billed(0, Integer.MAX_VALUE), NONE);
    }

    private static void truedAndInterest() {
        RentReview x = Check.deskOf("rate 500;index 0 1000 0;index 2 1300 5;index 4 900 8;"
                + "lease 0 8 1000 2 3;by index 0;break 7;");
        // In 5: MONTHS 2 (FREE), 3, 4 at 1300. In 8: MONTHS 4 to 7 at 900, no 'break' taken.
        check.due("12: trued(0, 5)", x.trued(0, 5), 600);
        check.due("13: interest(0, 5)", x.interest(0, 5), 300 * 500 * 2 / 12000 + 300 * 500 / 12000);
        check.due("12: trued(0, 8)", x.trued(0, 8), -1600);
        check.due("13: each cut towards 0", x.interest(0, 8), -66 - 50 - 33 - 16);
        check.due("12: none KNOWN anew", x.trued(0, 6), 0);
        check.due("12: behind the LEASE", x.trued(0, 239), 0);
        x.breaks(0);
        check.due("12: below END", x.trued(0, 8), -1200);
        check.due("13: below END", x.interest(0, 8), -66 - 50 - 33);
        check.due("12: none ahead", Check.deskOf("rate 9;lease 50 5 1 1 0;").trued(0, 50), 0);
        check.due("13: none ahead", Check.deskOf("rate 9;lease 50 5 1 1 0;").interest(0, 1), 0);
        for (int month : new int[] {0, -1, 240, Integer.MIN_VALUE, Integer.MAX_VALUE}) {
            check.due("12: trued(0, " + month + ")", x.trued(0, month), REFUSED);
            check.due("13: interest(0, " + month + ")", x.interest(0, month), REFUSED);
        }
        check.due("12: no LEASE", x.trued(1, 1), REFUSED);
        check.due("13: no LEASE", x.interest(-1, 1), REFUSED);
    }

    private static void spread() {
        RentReview x = Check.deskOf("rate 0;lease 2 5 100 2 1;by step 100;break 5;lease 0 4 1000 1 0;by market;");
        // DUE 0, 100, 110, 110, 121: 441, of which each MONTH has its share of what is left.
        int[] want = {88, 88, 88, 88, 89};
        for (int i = 0; i < 5; i++) {
            check.due("14: spread(0, " + (i + 2) + ")", x.spread(0, i + 2), want[i]);
            check.due("15: ahead(0, 6)", x.ahead(0, 6), 0);
        }
        check.due("14: ahead of START", x.spread(0, 1), REFUSED);
        check.due("14: behind TERM", x.spread(0, 7), REFUSED);
        check.due("14: no LEASE", x.spread(2, 2), REFUSED);
        x.pass(4);
        x.breaks(0);
        check.due("14: ahead of what is KNOWN", x.spread(0, 3), 88);
        check.due("14: cut anew", x.spread(0, 4), 210 - 176);
        check.due("14: at END", x.spread(0, 5), 0);
        check.due("14: behind END", x.spread(0, 6), 0);
        check.due("14: behind TERM", x.spread(0, 7), REFUSED);
        x.undo();
        check.due("14: undone", x.spread(0, 4), 88);
        x.undo();
        x.pass(3);
        x.market(1, 1, 1);
        // In 3: 1003 less 3000, in one MONTH.
        check.due("14: below 0", x.spread(1, 3), -1997);
        RentReview y = Check.deskOf("rate 0;lease 0 4 1000 1 0;by market;");
        y.pass(1);
        y.market(0, 1, 3);
        y.pass(1);
        y.market(0, 2, 2);
        // In 1: 1009 less 1000 by 3. In 2: 1007 less 1003 by 2.
        check.due("14: spread(0, 1)", y.spread(0, 1), 3);
        check.due("14: spread(0, 2)", y.spread(0, 2), 2);
        RentReview z = Check.deskOf("rate 0;lease 0 4 1000 1 3;by market;");
        z.pass(2);
        z.market(0, 1, 495);
        // In 2: 495 less 500, by 2, cut towards 0.
        check.due("14: cut towards 0", z.spread(0, 2), -2);
        check.due("14: what is left", z.spread(0, 3), -3);
    }

    private static void ahead() {
        RentReview x = Check.deskOf("rate 0;lease 2 5 100 2 1;by step 100;break 5;lease 0 4 1000 1 0;by market;");
        check.due("15: ahead(0, 2)", x.ahead(0, 2), 88);
        check.due("15: ahead(0, 4)", x.ahead(0, 4), 264 - 210);
        check.due("15: ahead of START", x.ahead(0, 1), REFUSED);
        check.due("15: behind TERM", x.ahead(0, 7), REFUSED);
        check.due("15: no LEASE", x.ahead(-1, 2), REFUSED);
        x.pass(4);
        x.breaks(0);
        check.due("15: at END", x.ahead(0, 5), 0);
        check.due("15: ahead of it", x.ahead(0, 3), 76);
        x.undo();
        x.undo();
        x.pass(2);
        x.market(1, 1, 400);
        // SPREADS 1000, 1000, then 100 and 100; DUE 1000, 400, 400, 400 as KNOWN from 2 on.
        check.due("15: DUE as KNOWN in 1", x.ahead(1, 1), 0);
        check.due("15: DUE as KNOWN in 2", x.ahead(1, 2), 2100 - 1800);
        x.pass(3);
        x.market(1, 2, 50);
        check.due("15: KNOWN too late", x.ahead(1, 3), 0);
    }

    private static void would() {
        RentReview x = Check.deskOf("rate 0;index 0 100 0;index 30 500 200;lease 2 20 1000 5 0;by index 0;collar 0 300;break 9;"
                + "lease 0 60 7 1 0;");
        check.due("16: NOW is ahead of START", x.would(0, 2, 100), NONE);
        x.publish(2, 100);
        x.pass(8);
        check.due("16: RENT from NOW on", x.would(0, 7, 150), 1300);
        check.due("16: between", x.would(0, 12, 200), 1300);
        check.due("16: a little", x.would(0, 12, 110), 1050);
        check.due("16: nothing changes", x.now(3), 3);
        check.due("16: nothing changes", x.index(12, 239), 100 + 400 * 10 / 28);
        check.due("16: nothing to undo", x.now(4), 2);
        check.due("16: no REVIEWS", x.would(1, 12, 110), 7);
        check.due("16: no LEASE", x.would(2, 12, 110), NONE);
        check.due("16: it has one", x.would(0, 30, 110), NONE);
        check.due("16: another VALUE", x.would(0, 12, 0), NONE);
        check.due("16: another VALUE", x.would(0, 12, 10000), NONE);
        check.due("16: another MONTH", x.would(0, 240, 1), NONE);
        check.due("16: another MONTH", x.would(0, -1, 1), NONE);
        x.breaks(0);
        x.pass(6);
        check.due("16: behind END", x.would(0, 12, 200), 1690);
        for (int month = 100; month < 137; month++) {
            x.publish(month, 9);
        }
        check.due("16: there are 40", x.would(0, 12, 200), -2);
        check.due("16: it has one, and there are 40", x.would(0, 30, 200), NONE);
        x.pass(10);
        check.due("16: NOW is behind it, and there are 40", x.would(0, 12, 200), NONE);
    }

    private static void publish() {
        RentReview x = Check.deskOf("rate 0;index 7 70 100;");
        x.pass(3);
        check.due("17: publish(7, 1)", x.publish(7, 1), NONE);
        check.due("17: publish(8, 0)", x.publish(8, 0), NONE);
        check.due("17: publish(8, 10000)", x.publish(8, 10000), NONE);
        check.due("17: publish(-1, 1)", x.publish(-1, 1), NONE);
        check.due("17: publish(240, 1)", x.publish(240, 1), NONE);
        check.due("17: refused, nothing to undo", x.now(4), 1);
        check.due("17: publish(239, 9999)", x.publish(239, 9999), 2);
        check.due("17: publish(0, 1)", x.publish(0, 1), 3);
        check.due("17: told again", x.publish(0, 1), NONE);
        check.due("17: KNOWN from NOW on", x.index(0, 2), NONE);
        check.due("17: KNOWN from NOW on", x.index(0, 3), 1);
        for (int month = 1; month <= 37; month++) {
            check.due("17: publish", x.publish(month + 10, 5), month + 3);
        }
        check.due("17: there are 40", x.publish(100, 5), -2);
        check.due("17: there are 40, another VALUE", x.publish(100, 0), NONE);
        check.due("17: there are 40, it has one", x.publish(0, 5), NONE);
        x.undo();
        check.due("17: there are 39", x.publish(100, 5), 40);
    }

    private static void market() {
        RentReview x = Check.deskOf("rate 0;lease 4 13 100 4 0;by market;lease 4 13 100 4 0;by step 0;");
        x.pass(6);
        check.due("18: r 0", x.market(0, 0, 5), NONE);
        check.due("18: r 4", x.market(0, 4, 5), NONE);
        check.due("18: value 0", x.market(0, 1, 0), NONE);
        check.due("18: value 100000", x.market(0, 1, 100000), NONE);
        check.due("18: not by market", x.market(1, 1, 5), NONE);
        check.due("18: no LEASE", x.market(2, 1, 5), NONE);
        check.due("18: nothing told", x.now(4), 1);
        check.due("18: market(0, 3, 1)", x.market(0, 3, 1), 16);
        check.due("18: market(0, 1, 99999)", x.market(0, 1, 99999), 8);
        check.due("18: told again", x.market(0, 1, 99999), NONE);
        check.due("18: KNOWN from NOW on", x.rent(0, 8, 5), 100);
        check.due("18: KNOWN from NOW on", x.rent(0, 8, 6), 99999);
        x.pass(99);
        x.pass(99);
        x.pass(35);
        check.due("18: told in the last MONTH", x.market(0, 2, 70), 12);
        check.due("18: told again there", x.market(0, 2, 70), NONE);
        check.due("18: KNOWN then", x.rent(0, 12, 239), 70);
    }

    private static void turnover() {
        RentReview x = Check.deskOf("rate 0;lease 4 13 100 1 0;by turnover 500;lease 4 13 100 4 0;by step 0;");
        x.pass(6);
        check.due("19: ahead of START", x.turnover(0, 3, 5), false);
        check.due("19: behind TERM", x.turnover(0, 17, 5), false);
        check.due("19: value -1", x.turnover(0, 4, -1), false);
        check.due("19: value 1000000", x.turnover(0, 4, 1000000), false);
        check.due("19: not by turnover", x.turnover(1, 4, 5), false);
        check.due("19: no LEASE", x.turnover(2, 4, 5), false);
        check.due("19: nothing told", x.now(4), 1);
        check.due("19: turnover(0, 4, 999999)", x.turnover(0, 4, 999999), true);
        check.due("19: turnover(0, 16, 0)", x.turnover(0, 16, 0), true);
        check.due("19: 0 told again", x.turnover(0, 16, 7), false);
        check.due("19: told again", x.turnover(0, 4, 999999), false);
        check.due("19: KNOWN from NOW on", x.rent(0, 5, 5), 100);
        check.due("19: KNOWN from NOW on", x.rent(0, 5, 6), 499999);
    }

    private static void breaks() {
        RentReview x = Check.deskOf("rate 0;lease 4 13 100 1 0;break 8;lease 4 13 100 4 0;lease 4 13 100 4 0;break 9;");
        x.pass(7);
        check.due("20: it has none", x.breaks(1), NONE);
        check.due("20: no LEASE", x.breaks(3), NONE);
        check.due("20: no LEASE", x.breaks(-1), NONE);
        check.due("20: breaks(0)", x.breaks(0), 8);
        check.due("20: it was taken", x.breaks(0), NONE);
        check.due("20: END", x.lease(0, 6), 8);
        check.due("20: billed(0, 7)", x.billed(0, 7), 100);
        check.due("20: billed(0, 8)", x.billed(0, 8), NONE);
        x.pass(2);
        check.due("20: that MONTH is NOW", x.breaks(2), NONE);
        x.pass(1);
        check.due("20: that MONTH is ahead", x.breaks(2), NONE);
        check.due("20: what can be undone", x.now(4), 4);
    }

    private static void pass() {
        RentReview x = new RentReview();
        check.due("21: pass(0)", x.pass(0), NONE);
        check.due("21: pass(-1)", x.pass(-1), NONE);
        check.due("21: pass(100)", x.pass(100), NONE);
        check.due("21: pass(MAX)", x.pass(Integer.MAX_VALUE), NONE);
        check.due("21: pass(99)", x.pass(99), 99);
        check.due("21: pass(1)", x.pass(1), 100);
        x.pass(99);
        check.due("21: pass(41)", x.pass(41), NONE);
        check.due("21: now(0)", x.now(0), 199);
        check.due("21: pass(40)", x.pass(40), 239);
        check.due("21: pass(1)", x.pass(1), NONE);
        check.due("21: now(4)", x.now(4), 4);
    }

    private static void undo() {
        RentReview x = Check.deskOf("rate 0;lease 0 20 100 2 0;by market;break 9;lease 0 20 100 2 0;by turnover 900;"
                + "lease 0 20 100 2 0;by index 0;");
        check.due("22: nothing done", x.undo(), NONE);
        x.publish(0, 10);
        x.publish(2, 20);
        x.market(0, 1, 300);
        x.turnover(1, 0, 800);
        x.turnover(1, 1, 800);
        x.breaks(0);
        x.pass(7);
        x.pass(0);
        check.due("22: now(4)", x.now(4), 7);
        check.due("22: pass()", x.undo(), 6);
        check.due("22: NOW", x.now(0), 0);
        check.due("22: breaks()", x.undo(), 5);
        check.due("22: END", x.lease(0, 6), 20);
        check.due("22: spread", x.spread(0, 0), (200 + 300 * 18) / 20);
        check.due("22: turnover()", x.undo(), 4);
        check.due("22: RENT", x.rent(1, 2, 0), 100);
        check.due("22: told anew", x.turnover(1, 1, 600), true);
        check.due("22: RENT", x.rent(1, 2, 0), 630);
        x.undo();
        x.undo();
        check.due("22: market()", x.undo(), 2);
        check.due("22: RENT", x.rent(0, 2, 0), 100);
        check.due("22: publish()", x.undo(), 1);
        check.due("22: INDEX", x.index(2, 0), NONE);
        check.due("22: the last", x.undo(), 0);
        check.due("22: VALUES", x.now(3), 0);
        check.due("22: no more", x.undo(), NONE);
        for (int i = 0; i < 13; i++) {
            x.pass(1);
        }
        check.due("22: 10 are kept", x.now(4), 10);
        for (int i = 9; i >= 0; i--) {
            check.due("22: undo()", x.undo(), i);
        }
        check.due("22: the first are not", x.undo(), NONE);
        check.due("22: NOW", x.now(0), 3);
        undoOfTheFirstKept();
    }

    private static void undoOfTheFirstKept() {
        RentReview x = Check.deskOf("rate 0;lease 0 20 100 2 0;by turnover 900;break 9;lease 0 20 100 2 0;break 8;");
        x.pass(2);
        x.breaks(1);
        x.publish(5, 50);
        for (int month = 0; month < 9; month++) {
            x.turnover(0, month, 5);
        }
        for (int i = 0; i < 9; i++) {
            x.undo();
        }
        check.due("22: publish() is the first kept", x.now(4), 1);
        check.due("22: it is undone", x.undo(), 0);
        check.due("22: VALUES", x.now(3), 0);
        check.due("22: breaks() is not kept", x.undo(), NONE);
        check.due("22: END", x.lease(1, 6), 8);
    }
}
