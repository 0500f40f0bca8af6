/**
 * The boundary cases of promises 1 to 5 and of paragraph 1 of 'Terms', each sentence by itself.
 * A JOB of whole sheets with one INK has NEEDED: its COPIES, a 20th of them, and 5.
 */
public final class PaperEdgeTest {
    private static final Check check = new Check();

    public static void main(String[] args) {
        moneyIsNoneAtFirst();
        aPaperAtItsEnds();
        aLotAtItsEnds();
        stockJustAtItsLimit();
        stockJustAboveItsLimit();
        limitOfEachPaperByItself();
        nothingToBuyFor();
        fewestLots();
        noMoreThanFortyLots();
        fortyLotsOfEachPaper();
        noMoreThanTheStockLimit();
        bothLimitsOfBuyAll();
        forecastOfQueuedJobsOnly();
        forecastOfAFullQueue();
        forecastOnItsOwnPress();
        shortIsNotBelowNone();
        check.end();
    }

    /** "MONEY is 0 at first, and can be below 0." */
    private static void moneyIsNoneAtFirst() {
        PrintLedger x = new PrintLedger();
        check.due("money", 0, () -> x.many(5));
        check.due("terms tell money", 0, () -> x.terms(10, 25));
        x.buy(0, 1);
        check.due("money below 0", -1250, () -> x.many(5));
        check.due("terms tell money below 0", -1250, () -> x.terms(10, 25));
    }

    /** "PAPERS are 0 to 3, each WIDE and HIGH, 20 to 99, with a PRICE of a sheet, 1 to 99". */
    private static void aPaperAtItsEnds() {
        PrintLedger x = new PrintLedger();
        check.due("the first, least", 5, () -> x.paper(0, 20, 20, 1));
        check.due("the last, most", 5, () -> x.paper(3, 99, 99, 99));
        int[] first = {20, 20, 1, 0, 0, 0};
        int[] last = {99, 99, 99, 0, 0, 0};
        for (int k = 0; k < 6; k++) {
            int what = k;
            check.due("ofPaper(0, " + k + ")", first[k], () -> x.ofPaper(0, what));
            check.due("ofPaper(3, " + k + ")", last[k], () -> x.ofPaper(3, what));
        }
        check.due("the PRICE before", 1, () -> x.paper(0, 99, 99, 99));
        check.due("the PRICE before", 99, () -> x.paper(3, 20, 20, 1));
        check.due("the same PRICE again", 1, () -> x.paper(3, 20, 20, 1));
    }

    /** "They are bought in LOTS of 250"; "lots is not 1 to 40"; "MONEY falls by PRICE for each sheet". */
    private static void aLotAtItsEnds() {
        PrintLedger x = new PrintLedger();
        x.paper(1, 20, 20, 1);
        x.paper(2, 20, 20, 99);
        check.due("1 lot at 1", 250, () -> x.buy(1, 1));
        check.due("money", -250, () -> x.many(5));
        check.due("40 lots at 99", 10000, () -> x.buy(2, 40));
        check.due("money", -250 - 990000, () -> x.many(5));
        check.wrongValue(x, "0 lots", () -> x.buy(2, 0));
        check.wrongValue(x, "41 lots", () -> x.buy(2, 41));
        check.due("1 lot more", 10250, () -> x.buy(2, 1));
    }

    /** "or the STOCK would be above 99999": 99999 itself is not. */
    private static void stockJustAtItsLimit() {
        PrintLedger by40 = Shops.oneBelow(360);
        check.due("stock", 89999, () -> by40.ofPaper(0, 3));
        check.due("40 lots up to 99999", 99999, () -> by40.buy(0, 40));
        check.wrongValue(by40, "1 lot more", () -> by40.buy(0, 1));
        PrintLedger by1 = Shops.oneBelow(399);
        check.due("stock", 99749, () -> by1.ofPaper(0, 3));
        check.wrongValue(by1, "2 lots up to 100249", () -> by1.buy(0, 2));
        check.due("1 lot up to 99999", 99999, () -> by1.buy(0, 1));
        check.due("stock", 99999, () -> by1.ofPaper(0, 3));
    }

    /** "or the STOCK would be above 99999": 100000 is. */
    private static void stockJustAboveItsLimit() {
        PrintLedger x = new PrintLedger();
        Shops.buyLots(x, 0, 360);
        int money = x.many(5);
        check.wrongValue(x, "40 lots up to 100000", () -> x.buy(0, 40));
        check.due("stock stays", 90000, () -> x.ofPaper(0, 3));
        check.due("money stays", money, () -> x.many(5));
        check.due("39 lots up to 99750", 99750, () -> x.buy(0, 39));
        check.wrongValue(x, "1 lot up to 100000", () -> x.buy(0, 1));
        check.due("stock stays", 99750, () -> x.ofPaper(0, 3));
    }

    private static void limitOfEachPaperByItself() {
        PrintLedger x = new PrintLedger();
        for (int paper = 0; paper < 4; paper++) {
            Shops.buyLots(x, paper, 399);
        }
        for (int k = 0; k < 4; k++) {
            int paper = k;
            check.due("stock " + k, 99750, () -> x.ofPaper(paper, 3));
            check.wrongValue(x, "a lot more of " + k, () -> x.buy(paper, 1));
        }
        check.due("worth", 4 * 99750 * 5, () -> x.many(8));
    }

    /** "Buys for all JOBS in QUEUES": not for NEW, PRINTED or INVOICED ones, nor for empty QUEUES. */
    private static void nothingToBuyFor() {
        PrintLedger empty = new PrintLedger();
        check.due("no JOBS", 0, empty::buyAll);
        PrintLedger fresh = Shops.threeNew();
        check.due("NEW", 0, fresh::buyAll);
        PrintLedger printed = Shops.threePrinted();
        check.due("stock", 0, () -> printed.ofPaper(0, 3));
        check.due("PRINTED", 0, printed::buyAll);
        printed.invoice(0);
        check.due("INVOICED", 0, printed::buyAll);
        int money = printed.many(5);
        printed.again(1);
        check.due("QUEUED again", 1, printed::buyAll);
        check.due("money", money - 1250, () -> printed.many(5));
    }

    private static void bought(int copies, int lotsBefore, int lots) {
        PrintLedger x = new PrintLedger();
        Shops.buyLots(x, 0, lotsBefore);
        Shops.wholeOrdered(x, copies, 1, 0);
        String call = "buyAll() for " + copies + " with " + lotsBefore + " lots";
        check.due(call, lots, x::buyAll);
        check.due(call + ": stock", (lotsBefore + lots) * 250, () -> x.ofPaper(0, 3));
        check.due(call + ": money", -(lotsBefore + lots) * 1250, () -> x.many(5));
        check.due(call + ": nothing is SHORT", 0, () -> x.ofPaper(0, 5));
    }

    /** "the fewest LOTS with which nothing is SHORT". */
    private static void fewestLots() {
        bought(1, 0, 1);
        // NEEDED is 249, 250 and 251.
        bought(233, 0, 1);
        bought(234, 0, 1);
        bought(235, 0, 2);
        bought(234, 1, 0);
        bought(235, 1, 1);
        // NEEDED is 500 and 501.
        bought(472, 0, 2);
        bought(473, 0, 3);
        bought(472, 1, 1);
        bought(473, 1, 2);
        bought(472, 2, 0);
        bought(473, 2, 1);
    }

    private static PrintLedger ordered(int... copies) {
        PrintLedger x = new PrintLedger();
        for (int k = 0; k < copies.length; k++) {
            Shops.wholeOrdered(x, copies[k], 1, k % 3);
        }
        return x;
    }

    /** "but no more than 40 of it". */
    private static void noMoreThanFortyLots() {
        // 9000 copies have NEEDED 9455; with the others it is 9750, 9751, 10000 and 10001.
        int[] others = {277, 278, 515, 516};
        int[] sum = {9750, 9751, 10000, 10001};
        int[] lots = {39, 40, 40, 40};
        int[] left = {0, 0, 0, 1};
        for (int k = 0; k < others.length; k++) {
            PrintLedger x = ordered(9000, others[k]);
            check.due("SHORT", sum[k], () -> x.ofPaper(0, 5));
            check.due("LOTS for " + sum[k], lots[k], x::buyAll);
            check.due("still SHORT of " + sum[k], left[k], () -> x.ofPaper(0, 5));
            check.due("LOTS once more for " + sum[k], left[k], x::buyAll);
        }
    }

    /** The 40 are "of it": of each PAPER by itself; "Returns how many LOTS together". */
    private static void fortyLotsOfEachPaper() {
        PrintLedger x = new PrintLedger();
        for (int k = 0; k < 4; k++) {
            x.job(k, 70, 50, 9999, 1);
            x.order(k, k % 3);
        }
        check.due("40 of each", 160, x::buyAll);
        for (int k = 0; k < 4; k++) {
            int paper = k;
            check.due("stock", 10000, () -> x.ofPaper(paper, 3));
            check.due("SHORT", 503, () -> x.ofPaper(paper, 5));
        }
        check.due("3 more of each", 12, x::buyAll);
        check.due("none more", 0, x::buyAll);
    }

    /** Ten JOBS of 10503 sheets each: more than there can be of a STOCK. */
    private static PrintLedger great(int lots) {
        PrintLedger x = Shops.oneBelow(lots);
        for (int k = 0; k < 10; k++) {
            Shops.wholeOrdered(x, 9999, 1, 0);
        }
        check.due("FORECAST", 105030, () -> x.ofPaper(0, 4));
        return x;
    }

    /** "nor so many that its STOCK would be above 99999 (then as many as can be)". */
    private static void noMoreThanTheStockLimit() {
        PrintLedger at = great(399);
        check.due("stock", 99749, () -> at.ofPaper(0, 3));
        check.due("1 lot up to 99999", 1, at::buyAll);
        check.due("stock", 99999, () -> at.ofPaper(0, 3));
        check.due("SHORT all the same", 5031, () -> at.ofPaper(0, 5));
        check.due("no lot more", 0, at::buyAll);
        PrintLedger above = great(361);
        above.buy(0, 38);
        above.slip(0, 24, 9998);
        above.buy(0, 40);
        // 99749 less 19997 and 10000 more.
        check.due("stock", 89752, () -> above.ofPaper(0, 3));
        check.due("40 lots up to 99752", 40, above::buyAll);
        check.due("no lot up to 100002", 0, above::buyAll);
        check.due("stock", 99752, () -> above.ofPaper(0, 3));
    }

    /** With 40 LOTS up to 99999, with 41, and with 39. */
    private static void bothLimitsOfBuyAll() {
        int[] lots = {358, 359, 360, 361};
        int[] first = {40, 40, 40, 39};
        int[] second = {2, 1, 0, 0};
        for (int k = 0; k < lots.length; k++) {
            PrintLedger x = great(lots[k]);
            int money = x.many(5);
            check.due("LOTS from " + lots[k], first[k], x::buyAll);
            check.due("LOTS once more from " + lots[k], second[k], x::buyAll);
            check.due("stock", 99999, () -> x.ofPaper(0, 3));
            check.due("money", money - (first[k] + second[k]) * 1250, () -> x.many(5));
        }
    }

    /** "NEEDED of all JOBS of it in QUEUES". */
    private static void forecastOfQueuedJobsOnly() {
        PrintLedger x = new PrintLedger();
        check.due("no JOBS", 0, () -> x.ofPaper(0, 4));
        Shops.whole(x, 100, 1);
        check.due("a NEW one", 0, () -> x.ofPaper(0, 4));
        x.order(0, 0);
        check.due("a QUEUED one", 110, () -> x.ofPaper(0, 4));
        check.due("of no other PAPER", 0, () -> x.ofPaper(1, 4));
        x.buy(0, 1);
        x.slip(0, 24, 155);
        check.due("a PRINTED one", 0, () -> x.ofPaper(0, 4));
        x.again(0);
        // 5 sheets; SPOIL is (150 + 620) / 4 = 192 by now: 0 and 5 more.
        check.due("one that is QUEUED again", 10, () -> x.ofPaper(0, 4));
        x.buy(0, 1);
        x.slip(0, 24, 0);
        x.invoice(0);
        check.due("an INVOICED one", 0, () -> x.ofPaper(0, 4));
    }

    private static void forecastOfAFullQueue() {
        PrintLedger x = Shops.fullQueue(1, 1);
        check.due("20 of 6 each", 120, () -> x.ofPaper(0, 4));
        check.due("SHORT", 120, () -> x.ofPaper(0, 5));
        check.due("1 lot", 1, x::buyAll);
    }

    /** "each on its PRESS, as expected now". */
    private static void forecastOnItsOwnPress() {
        PrintLedger x = new PrintLedger();
        for (int press = 0; press < 3; press++) {
            Shops.wholeOrdered(x, 100, 15, press);
        }
        check.due("2 PASSES each", 3 * 115, () -> x.ofPaper(0, 4));
        x.towers(1, 1);
        check.due("4 PASSES on one", 2 * 115 + 125, () -> x.ofPaper(0, 4));
        x.towers(2, 4);
        check.due("1 PASS on another", 115 + 125 + 110, () -> x.ofPaper(0, 4));
    }

    /** "SHORT: FORECAST less STOCK, if that is above 0, otherwise 0". */
    private static void shortIsNotBelowNone() {
        int[] copies = {233, 234, 235};
        int[] due = {0, 0, 1};
        for (int k = 0; k < copies.length; k++) {
            PrintLedger x = ordered(copies[k]);
            check.due("FORECAST", 249 + k, () -> x.ofPaper(0, 4));
            check.due("SHORT without STOCK", 249 + k, () -> x.ofPaper(0, 5));
            x.buy(0, 1);
            check.due("SHORT of " + copies[k], due[k], () -> x.ofPaper(0, 5));
            check.due("SHORT of another PAPER", 0, () -> x.ofPaper(1, 5));
        }
        PrintLedger none = new PrintLedger();
        none.buy(0, 40);
        check.due("SHORT of nothing", 0, () -> none.ofPaper(0, 5));
    }
}
