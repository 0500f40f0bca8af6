/**
 * The boundary cases of promises 6 to 11, of paragraphs 2 and 5 of 'Terms' and of EXPECTED, each
 * sentence by itself.
 */
public final class JobEdgeTest {
    private static final Check check = new Check();

    public static void main(String[] args) {
        aJobAtItsEnds();
        twentyJobsAndNoMore();
        turnedOnlyIfThatIsMore();
        aSheetThatJustHoldsIt();
        noSheetHoldsIt();
        lyingAsThePaperWas();
        statesOneAfterTheOther();
        sheetsAreRoundedUp();
        lackingIsNotBelowNone();
        passesAreRoundedUp();
        changeOfInksThatAreNotIn();
        spoiledIsCut();
        minutesAreCut();
        quoteIsCut();
        productsGreaterThanAnInt();
        expectedOfNothingLacking();
        expectedOfOneQueuedAgain();
        orderOfANewJobOnly();
        orderFillsTheQueue();
        quoteAsItWasOrdered();
        againOfAPrintedJobOnly();
        againWithOneLacking();
        againAsTheFirstOfAll();
        againOnItsPress();
        invoiceOfAPrintedJobOnly();
        invoiceOfJustEnough();
        invoiceOfOversAndNoMore();
        check.end();
    }

    /** "numbered from 0, .. WIDE and HIGH, 1 to 99, COPIES, 1 to 9999, and a set of INKS (0 to 3), at least one". */
    private static void aJobAtItsEnds() {
        PrintLedger x = new PrintLedger();
        x.paper(3, 99, 99, 5);
        check.due("the first number", 0, () -> x.job(0, 1, 1, 1, 1));
        check.due("the next one", 1, () -> x.job(3, 99, 99, 9999, 15));
        int[] least = {0, 1, 1, 3500, 0, 0, 0, 0, 1, 0, 0, 0, -1};
        int[] most = {3, 9999, 15, 1, 0, 0, 0, 0, 9999, 0, 0, 0, -1};
        for (int k = 0; k <= 12; k++) {
            int what = k;
            check.due("ofJob(0, " + k + ")", least[k], () -> x.ofJob(0, what));
            check.due("ofJob(1, " + k + ")", most[k], () -> x.ofJob(1, what));
        }
        check.due("1 by 1 on 99 by 99", 2, () -> x.job(3, 1, 1, 9999, 8));
        check.due("LIES 9801 times", 9801, () -> x.ofJob(2, 3));
        check.due("leaves nothing", 0, () -> x.ofJob(2, 5));
        check.due("2 SHEETS", 2, () -> x.ofJob(2, 8));
    }

    /** "at most 20"; "Throws IllegalStateException if there are 20". */
    private static void twentyJobsAndNoMore() {
        PrintLedger x = new PrintLedger();
        for (int k = 0; k < 19; k++) {
            Shops.whole(x, 1, 1);
        }
        check.noPlace(x, "the 20th ahead of its time", () -> x.ofJob(19, 1));
        check.due("the 20th", 19, () -> Shops.whole(x, 77, 2));
        check.due("its COPIES", 77, () -> x.ofJob(19, 1));
        check.wrongState(x, "the 21st", () -> Shops.whole(x, 1, 1));
        check.due("20 JOBS", 20, () -> x.many(0));
        check.noPlace(x, "there is no 21st", () -> x.ofJob(20, 1));
        x.order(19, 0);
        x.buy(0, 1);
        x.slip(0, 24, 0);
        x.invoice(19);
        check.wrongState(x, "the 21st when one is INVOICED", () -> Shops.whole(x, 1, 1));
        check.due("20 NEW and others", 19, () -> x.many(1));
    }

    private static void lies(int sheetWide, int sheetHigh, int wide, int high, int times, int turned) {
        PrintLedger x = new PrintLedger();
        x.paper(2, sheetWide, sheetHigh, 1);
        String call = wide + " by " + high + " on " + sheetWide + " by " + sheetHigh;
        check.due(call, 0, () -> x.job(2, wide, high, 1, 1));
        check.due(call + ": LIES", times, () -> x.ofJob(0, 3));
        check.due(call + ": turned", turned, () -> x.ofJob(0, 4));
        int leaves = sheetWide * sheetHigh - times * wide * high;
        check.due(call + ": leaves", leaves, () -> x.ofJob(0, 5));
    }

    /** "or, if that is more, turned: WIDE into HIGH, and HIGH into WIDE". */
    private static void turnedOnlyIfThatIsMore() {
        // As often both ways.
        lies(60, 60, 20, 30, 6, 0);
        lies(60, 60, 30, 20, 6, 0);
        lies(70, 50, 25, 25, 4, 0);
        lies(70, 50, 35, 24, 4, 0);
        lies(50, 70, 24, 33, 4, 0);
        // Once more, turned and not.
        lies(99, 20, 20, 19, 5, 1);
        lies(99, 20, 19, 20, 5, 0);
        lies(45, 30, 20, 14, 4, 0);
        lies(45, 30, 14, 20, 4, 1);
        // One way only.
        lies(20, 30, 30, 20, 1, 1);
        lies(20, 30, 20, 30, 1, 0);
        lies(99, 20, 20, 99, 1, 1);
        lies(99, 20, 99, 20, 1, 0);
        lies(99, 20, 1, 99, 20, 1);
        lies(99, 20, 99, 1, 20, 0);
    }

    /** "how often WIDE goes into that of the PAPER": just so often, and once less by one more. */
    private static void aSheetThatJustHoldsIt() {
        lies(60, 60, 30, 60, 2, 0);
        lies(60, 60, 31, 60, 1, 0);
        lies(60, 60, 20, 20, 9, 0);
        lies(60, 60, 21, 20, 6, 0);
        lies(60, 60, 20, 21, 6, 0);
        lies(60, 60, 21, 21, 4, 0);
        lies(59, 60, 20, 20, 6, 0);
        lies(60, 59, 20, 20, 6, 0);
        lies(60, 60, 60, 60, 1, 0);
        lies(20, 20, 11, 11, 1, 0);
        lies(20, 20, 10, 10, 4, 0);
    }

    /** "or it would LIE 0 times". */
    private static void noSheetHoldsIt() {
        PrintLedger x = new PrintLedger();
        x.paper(0, 30, 20, 5);
        x.paper(1, 99, 20, 5);
        check.wrongValue(x, "31 by 20", () -> x.job(0, 31, 20, 1, 1));
        check.wrongValue(x, "20 by 31", () -> x.job(0, 20, 31, 1, 1));
        check.wrongValue(x, "30 by 21", () -> x.job(0, 30, 21, 1, 1));
        check.wrongValue(x, "21 by 30", () -> x.job(0, 21, 30, 1, 1));
        check.wrongValue(x, "21 by 21", () -> x.job(0, 21, 21, 1, 1));
        check.wrongValue(x, "31 by 1", () -> x.job(0, 31, 1, 1, 1));
        check.wrongValue(x, "1 by 31", () -> x.job(0, 1, 31, 1, 1));
        check.wrongValue(x, "99 by 99", () -> x.job(0, 99, 99, 1, 1));
        check.wrongValue(x, "99 by 21", () -> x.job(1, 99, 21, 1, 1));
        check.wrongValue(x, "21 by 99", () -> x.job(1, 21, 99, 1, 1));
        check.due("no JOBS", 0, () -> x.many(0));
        check.due("30 by 20", 0, () -> x.job(0, 30, 20, 1, 1));
        check.due("20 by 30", 1, () -> x.job(0, 20, 30, 1, 1));
        check.due("20 by 99", 2, () -> x.job(1, 20, 99, 1, 1));
    }

    /** "by the PAPER as it is when the JOB comes; PRICES are as they are now". */
    private static void lyingAsThePaperWas() {
        PrintLedger x = new PrintLedger();
        x.job(0, 50, 70, 100, 1);
        x.paper(0, 20, 20, 99);
        check.due("LIES where it would not by now", 1, () -> x.ofJob(0, 3));
        check.due("turned", 1, () -> x.ofJob(0, 4));
        check.due("leaves", 0, () -> x.ofJob(0, 5));
        check.due("SHEETS", 100, () -> x.ofJob(0, 8));
        check.wrongValue(x, "the same by now", () -> x.job(0, 50, 70, 100, 1));
        // 110 sheets at 99, 27 minutes.
        check.due("COST by the PRICE now", 270 + 200 + 110 * 99, () -> x.expected(0, 0, 5));
        x.order(0, 0);
        x.buy(0, 1);
        x.paper(0, 20, 20, 1);
        x.slip(0, 27, 10);
        check.due("what it COST by the PRICE now", 270 + 200 + 110, () -> x.ofJob(0, 10));
        x.paper(0, 99, 99, 99);
        check.due("and no more by a later one", 580, () -> x.ofJob(0, 10));
    }

    /** "A JOB is NEW (0), QUEUED (1), PRINTED (2), or INVOICED (3)"; "NONE, if it is NEW"; "(0 if it was not)". */
    private static void statesOneAfterTheOther() {
        PrintLedger x = new PrintLedger();
        Shops.whole(x, 100, 1);
        // What of 6, 7, 9, 11 and 12: state, MADE, QUOTE, INVOICED and PRESS.
        is(x, 0, 0, 0, 0, -1);
        x.order(0, 2);
        is(x, 1, 0, 1275, 0, 2);
        x.buy(0, 1);
        x.slip(2, 24, 155);
        is(x, 2, 95, 1275, 0, 2);
        x.again(0);
        is(x, 1, 95, 1275, 0, 2);
        x.buy(0, 1);
        x.slip(2, 24, 0);
        is(x, 2, 100, 1275, 0, 2);
        x.invoice(0);
        is(x, 3, 100, 1275, 1275, 2);
    }

    private static void is(PrintLedger x, int state, int made, int quote, int invoiced, int press) {
        check.due("state", state, () -> x.ofJob(0, 6));
        check.due("MADE in state " + state, made, () -> x.ofJob(0, 7));
        check.due("QUOTE in state " + state, quote, () -> x.ofJob(0, 9));
        check.due("INVOICED in state " + state, invoiced, () -> x.ofJob(0, 11));
        check.due("PRESS in state " + state, press, () -> x.ofJob(0, 12));
    }

    /** "SHEETS: LACKING / how often it LIES, but rounded up". */
    private static void sheetsAreRoundedUp() {
        int[] copies = {1, 34, 35, 36, 69, 70, 71, 9974, 9975, 9976, 9999};
        int[] sheets = {1, 1, 1, 2, 2, 2, 3, 285, 285, 286, 286};
        PrintLedger x = new PrintLedger();
        for (int k = 0; k < copies.length; k++) {
            int job = x.job(0, 10, 10, copies[k], 1);
            check.due("SHEETS of " + copies[k], sheets[k], () -> x.ofJob(job, 8));
        }
        int once = Shops.whole(x, 9999, 1);
        check.due("SHEETS of whole ones", 9999, () -> x.ofJob(once, 8));
        int small = x.job(0, 1, 1, 3501, 1);
        check.due("SHEETS of small ones", 2, () -> x.ofJob(small, 8));
    }

    /** "LACKING: COPIES less MADE, if that is above 0, otherwise 0". */
    private static void lackingIsNotBelowNone() {
        int[] made = {99, 100};
        int[] sheets = {1, 0};
        for (int k = 0; k < made.length; k++) {
            PrintLedger x = Shops.printed(made[k], 100);
            check.due("SHEETS with " + made[k], sheets[k], () -> x.ofJob(0, 8));
        }
        PrintLedger overs = new PrintLedger();
        overs.job(0, 1, 1, 1, 1);
        overs.order(0, 0);
        overs.buy(0, 1);
        overs.slip(0, 24, 0);
        check.due("MADE", 3500, () -> overs.ofJob(0, 7));
        check.due("SHEETS with overs", 0, () -> overs.ofJob(0, 8));
        check.due("NEEDED with overs", 5, () -> overs.expected(0, 0, 3));
    }

    /** "how many INKS it has / TOWERS, but rounded up". */
    private static void passesAreRoundedUp() {
        int[] inks = {1, 10, 7, 15};
        int[][] passes = {{1, 1, 1, 1}, {2, 1, 1, 1}, {3, 2, 1, 1}, {4, 2, 2, 1}};
        PrintLedger x = new PrintLedger();
        for (int k = 0; k < inks.length; k++) {
            int job = Shops.whole(x, 1, inks[k]);
            for (int towers = 1; towers <= 4; towers++) {
                x.towers(1, towers);
                String call = (k + 1) + " INKS on " + towers;
                check.due(call, passes[k][towers - 1], () -> x.expected(job, 1, 0));
            }
        }
    }

    /** "CHANGE: 4 minutes for each INK of it that is not in the PRESS". */
    private static void changeOfInksThatAreNotIn() {
        PrintLedger x = new PrintLedger();
        Shops.wholeOrdered(x, 1, 6, 0);
        int[] inks = {1, 2, 4, 8, 6, 9, 7, 14, 15};
        int[] none = {4, 4, 4, 4, 8, 8, 12, 12, 16};
        int[] some = {4, 0, 0, 4, 0, 8, 4, 4, 8};
        for (int set : inks) {
            Shops.whole(x, 1, set);
        }
        for (int k = 0; k < inks.length; k++) {
            int job = k + 1;
            check.due("CHANGE of " + inks[k] + " with none in", none[k], () -> x.expected(job, 0, 1));
        }
        x.buy(0, 1);
        x.slip(0, 28, 0);
        for (int k = 0; k < inks.length; k++) {
            int job = k + 1;
            check.due("CHANGE of " + inks[k] + " with 6 in", some[k], () -> x.expected(job, 0, 1));
            check.due("CHANGE of " + inks[k] + " elsewhere", none[k], () -> x.expected(job, 1, 1));
        }
    }

    private static void expected(int copies, int inks, int what, int due) {
        PrintLedger x = new PrintLedger();
        Shops.whole(x, copies, inks);
        check.due("expected(.., " + what + ") of " + copies + " with inks " + inks, due, () -> x.expected(0, 0, what));
    }

    /** "SPOILED: SHEETS * SPOIL / 1000, and 5 for each PASS", with SPOIL 50. */
    private static void spoiledIsCut() {
        int[] copies = {1, 19, 20, 39, 40, 9979, 9980, 9999};
        int[] spoiled = {0, 0, 1, 1, 2, 498, 499, 499};
        for (int k = 0; k < copies.length; k++) {
            expected(copies[k], 1, 2, spoiled[k] + 5);
            expected(copies[k], 15, 2, spoiled[k] + 10);
            expected(copies[k], 1, 3, copies[k] + spoiled[k] + 5);
        }
    }

    /** "MINUTES: CHANGE, READY for each PASS, and NEEDED * RUN * PASSES / 1000", with RUN 30. */
    private static void minutesAreCut() {
        // NEEDED is 33, 34, 66 and 67 in one PASS: 990, 1020, 1980, 2010.
        expected(27, 1, 4, 24);
        expected(28, 1, 4, 25);
        expected(59, 1, 4, 25);
        expected(59, 1, 3, 66);
        expected(60, 1, 3, 68);
        expected(60, 1, 4, 26);
        // NEEDED is 100 and 333: 3000, which is just 3, and 9990.
        expected(91, 1, 3, 100);
        expected(91, 1, 4, 27);
        expected(313, 1, 3, 333);
        expected(313, 1, 4, 33);
        // NEEDED is 16, 17 and 33 in two PASSES: 960, 1020 and 1980, all PASSES ahead of the cut.
        expected(6, 7, 4, 52);
        expected(7, 7, 4, 53);
        expected(22, 7, 3, 33);
        expected(22, 7, 4, 53);
    }

    /** "QUOTE: COST * (100 + MARGIN) / 100", with COST 470. */
    private static void quoteIsCut() {
        PrintLedger x = new PrintLedger();
        Shops.whole(x, 1, 1);
        int[] margin = {0, 1, 2, 10, 25, 99, 100, 199, 200};
        int[] quote = {470, 474, 479, 517, 587, 935, 940, 1405, 1410};
        for (int k = 0; k < margin.length; k++) {
            x.terms(10, margin[k]);
            check.due("COST with " + margin[k], 470, () -> x.expected(0, 0, 5));
            check.due("QUOTE with " + margin[k], quote[k], () -> x.expected(0, 0, 6));
        }
    }

    private static void expectedIs(PrintLedger x, int press, int... want) {
        for (int k = 0; k <= 6; k++) {
            int what = k;
            check.due("expected(0, " + press + ", " + k + ")", want[k], () -> x.expected(0, press, what));
        }
    }

    /** "Products ahead of a / can be greater than an int": COST * 300, and QUOTE * pieces. */
    private static void productsGreaterThanAnInt() {
        PrintLedger x = new PrintLedger();
        x.paper(3, 99, 99, 99);
        for (int k = 0; k < 6; k++) {
            x.job(3, 99, 99, 1, 1);
            x.order(k, 0);
            x.buy(3, 40);
            x.slip(0, 9999, 9999);
        }
        // Six times (3 * RUN + 997) / 4 and (3 * SPOIL + 999) / 4.
        check.due("run", 823, () -> x.ofPress(0, 3));
        check.due("spoil", 829, () -> x.ofPress(0, 4));
        x.towers(0, 1);
        x.terms(99, 200);
        int job = x.job(3, 99, 99, 9999, 15);
        int cost = x.expected(job, 0, 5);
        if (cost < 7_200_000) {
            check.report("the cost is not great enough for this test: " + cost);
        }
        check.due("a great quote", 3L * cost, () -> x.expected(job, 0, 6));
        int quote = x.order(job, 0);
        check.due("a great quote ordered", 3L * cost, () -> quote);
        x.buy(3, 40);
        check.due("all good", 9999, () -> x.slip(0, 1, 0));
        check.due("a great invoice", quote, () -> x.invoice(job));
        PrintLedger dear = new PrintLedger();
        dear.paper(0, 70, 50, 99);
        Shops.whole(dear, 9999, 1);
        // 10503 sheets in 339 minutes: 3390 + 200 + 1039797.
        check.due("QUOTE", 1304233, () -> dear.order(0, 0));
        Shops.buyLots(dear, 0, 38);
        dear.slip(0, 339, 0);
        check.due("MADE", 9500, () -> dear.ofJob(0, 7));
        check.due("profit", 1239145 - 3390 - 200 - 9500 * 99, () -> dear.profit(0));
        check.due("INVOICE of 9500", 1239145, () -> dear.invoice(0));
    }

    /** EXPECTED holds for every JOB, also for one of which nothing is LACKING. */
    private static void expectedOfNothingLacking() {
        PrintLedger x = new PrintLedger();
        Shops.wholeOrdered(x, 100, 15, 1);
        x.buy(0, 1);
        x.slip(1, 56, 0);
        check.due("SHEETS", 0, () -> x.ofJob(0, 8));
        // On press 1 RUN is 22 and all INKS are in it; 5 and 20 minutes for each of two PASSES.
        expectedIs(x, 1, 2, 0, 10, 10, 40, 400 + 800 + 50, 1562);
        expectedIs(x, 0, 2, 16, 10, 10, 56, 560 + 800 + 50, 1762);
        x.towers(2, 1);
        expectedIs(x, 2, 4, 16, 20, 20, 98, 980 + 800 + 100, 2350);
        x.invoice(0);
        expectedIs(x, 1, 2, 0, 10, 10, 40, 1250, 1562);
    }

    /** EXPECTED COST has 200 for each INK also of a JOB that is QUEUED again, though its SLIP has not. */
    private static void expectedOfOneQueuedAgain() {
        PrintLedger x = new PrintLedger();
        Shops.wholeOrdered(x, 300, 3, 0);
        x.buy(0, 1);
        x.slip(0, 28, 0);
        check.due("50 SHEETS", 50, () -> x.again(0));
        // SPOIL is 37 and RUN 22: 50 + 1 + 5 sheets in 20 + 1 minutes.
        expectedIs(x, 0, 1, 0, 6, 56, 21, 210 + 400 + 280, 1112);
        x.buy(0, 1);
        int money = x.many(5);
        int cost = x.ofJob(0, 10);
        x.slip(0, 21, 6);
        check.due("MONEY without INKS", money - 210, () -> x.many(5));
        check.due("what it COST without INKS", cost + 210 + 280, () -> x.ofJob(0, 10));
    }

    /** "Orders a NEW JOB"; "Throws IllegalStateException if it is not NEW". */
    private static void orderOfANewJobOnly() {
        PrintLedger x = new PrintLedger();
        Shops.whole(x, 100, 1);
        check.due("NEW", 1275, () -> x.order(0, 0));
        check.wrongState(x, "QUEUED, the same PRESS", () -> x.order(0, 0));
        check.wrongState(x, "QUEUED, another PRESS", () -> x.order(0, 1));
        x.buy(0, 1);
        x.slip(0, 24, 152);
        check.wrongState(x, "PRINTED", () -> x.order(0, 0));
        x.again(0);
        check.wrongState(x, "QUEUED again", () -> x.order(0, 0));
        x.buy(0, 1);
        x.slip(0, 24, 0);
        x.invoice(0);
        check.wrongState(x, "INVOICED", () -> x.order(0, 0));
        check.due("in no QUEUE", 0, () -> x.ofPress(0, 5));
        check.due("in no QUEUE", 0, () -> x.ofPress(1, 5));
    }

    /** "is the last one in the QUEUE of a PRESS": of an empty one, and up to 20. */
    private static void orderFillsTheQueue() {
        PrintLedger x = new PrintLedger();
        for (int k = 0; k < 20; k++) {
            Shops.whole(x, 1, 1);
        }
        for (int k = 0; k < 20; k++) {
            int job = 19 - k;
            int place = k;
            check.due("order as number " + k, 587, () -> x.order(job, 2));
            check.due("the last one", job, () -> x.queue(2, place));
            check.due("the first one", 19, () -> x.queue(2, 0));
            check.due("in the QUEUE", place + 1, () -> x.ofPress(2, 5));
            check.noPlace(x, "no place behind it", () -> x.queue(2, place + 1));
        }
        check.due("all QUEUED", 20, () -> x.many(2));
    }

    /** "it has the QUOTE that there is then". */
    private static void quoteAsItWasOrdered() {
        PrintLedger x = new PrintLedger();
        Shops.whole(x, 100, 3);
        Shops.whole(x, 100, 3);
        int quote = x.expected(0, 1, 6);
        check.due("order", quote, () -> x.order(0, 1));
        check.due("with the INKS that are in the PRESS, not those of the one ahead", quote, () -> x.order(1, 1));
        x.terms(99, 200);
        x.paper(0, 70, 50, 99);
        x.towers(1, 1);
        check.due("QUOTE as it was ordered", quote, () -> x.ofJob(0, 9));
        x.buy(0, 1);
        x.slip(1, 1, 0);
        check.due("behind its SLIP", quote, () -> x.ofJob(0, 9));
        check.due("INVOICED by it", quote, () -> x.invoice(0));
    }

    /** "Throws IllegalStateException if it is not PRINTED, or nothing is LACKING". */
    private static void againOfAPrintedJobOnly() {
        PrintLedger x = Shops.threeNew();
        check.wrongState(x, "NEW", () -> x.again(0));
        x.order(0, 0);
        check.wrongState(x, "QUEUED", () -> x.again(0));
        x.buy(0, 1);
        x.slip(0, 24, 154);
        check.due("PRINTED", 4, () -> x.again(0));
        check.wrongState(x, "QUEUED again", () -> x.again(0));
        PrintLedger invoiced = Shops.printed(96, 100);
        invoiced.invoice(0);
        check.wrongState(invoiced, "INVOICED with some LACKING", () -> invoiced.again(0));
    }

    private static void againWithOneLacking() {
        PrintLedger one = Shops.printed(99, 100);
        check.due("one is LACKING", 1, () -> one.again(0));
        PrintLedger most = Shops.printed(1, 9999);
        check.due("9998 are LACKING", 9998, () -> most.again(0));
        PrintLedger none = Shops.printed(100, 100);
        check.wrongState(none, "nothing is LACKING", () -> none.again(0));
        PrintLedger overs = new PrintLedger();
        overs.job(0, 70, 25, 99, 1);
        overs.order(0, 0);
        overs.buy(0, 1);
        overs.slip(0, 24, 0);
        check.due("MADE", 100, () -> overs.ofJob(0, 7));
        check.wrongState(overs, "one more than COPIES", () -> overs.again(0));
    }

    /** "QUEUED again, as the first one": ahead of none, and ahead of 19. */
    private static void againAsTheFirstOfAll() {
        PrintLedger alone = Shops.printed(90, 100);
        check.due("ahead of none", 10, () -> alone.again(0));
        check.due("the first one", 0, () -> alone.queue(0, 0));
        check.due("the only one", 1, () -> alone.ofPress(0, 5));
        PrintLedger full = Shops.printed(90, 100);
        for (int k = 1; k < 20; k++) {
            Shops.wholeOrdered(full, 1, 1, 0);
        }
        check.due("19 in the QUEUE", 19, () -> full.ofPress(0, 5));
        check.due("ahead of 19", 10, () -> full.again(0));
        check.due("20 in the QUEUE", 20, () -> full.ofPress(0, 5));
        for (int k = 0; k < 20; k++) {
            int place = k;
            check.due("place " + k, k, () -> full.queue(0, place));
        }
        check.noPlace(full, "no place behind them", () -> full.queue(0, 20));
    }

    /** "on its PRESS". */
    private static void againOnItsPress() {
        PrintLedger x = Shops.threePrinted();
        for (int k = 0; k < 3; k++) {
            int job = k;
            check.due("again", 4, () -> x.again(job));
            check.due("on its PRESS", job, () -> x.queue(job, 0));
            check.due("alone there", 1, () -> x.ofPress(job, 5));
            check.due("its PRESS", job, () -> x.ofJob(job, 12));
        }
    }

    /** "Throws IllegalStateException if it is not PRINTED". */
    private static void invoiceOfAPrintedJobOnly() {
        PrintLedger x = new PrintLedger();
        Shops.whole(x, 100, 1);
        check.wrongState(x, "NEW", () -> x.invoice(0));
        x.order(0, 0);
        check.wrongState(x, "QUEUED", () -> x.invoice(0));
        x.buy(0, 1);
        x.slip(0, 24, 151);
        x.again(0);
        check.wrongState(x, "QUEUED again with enough pieces", () -> x.invoice(0));
        x.buy(0, 1);
        x.slip(0, 24, 0);
        check.due("PRINTED", 1275, () -> x.invoice(0));
        int money = x.many(5);
        check.wrongState(x, "INVOICED", () -> x.invoice(0));
        check.due("MONEY stays", money, () -> x.many(5));
    }

    /** "A JOB with MADE below COPIES less COPIES / 20 cannot be INVOICED." */
    private static void invoiceOfJustEnough() {
        int[] copies = {1, 2, 19, 20, 21, 39, 40, 59, 60, 100, 9999};
        int[] least = {1, 2, 19, 19, 20, 38, 38, 57, 57, 95, 9500};
        for (int k = 0; k < copies.length; k++) {
            String of = least[k] + " of " + copies[k];
            PrintLedger enough = Shops.printed(least[k], copies[k]);
            int money = enough.many(5);
            int due = (int) ((long) enough.ofJob(0, 9) * least[k] / copies[k]);
            check.due(of, due, () -> enough.invoice(0));
            check.due("MONEY with " + of, money + due, () -> enough.many(5));
            check.due("INVOICED with " + of, due, () -> enough.ofJob(0, 11));
            if (least[k] > 1) {
                PrintLedger few = Shops.printed(least[k] - 1, copies[k]);
                check.wrongState(few, "one less than " + of, () -> few.invoice(0));
                check.due("PRINTED still", 2, () -> few.ofJob(0, 6));
            }
        }
        PrintLedger hand = Shops.printed(19, 20);
        // 20 sheets, 1 + 5 spoiled, in 24 minutes: 240 + 200 + 130, and a quarter: 712.
        check.due("19 of 20 by hand", 676, () -> hand.invoice(0));
    }

    private static void overs(int wide, int high, int copies, int made, int due) {
        PrintLedger x = new PrintLedger();
        x.paper(0, 99, 99, 5);
        x.job(0, wide, high, copies, 1);
        check.due("QUOTE", 587, () -> x.order(0, 0));
        x.buy(0, 1);
        x.slip(0, 24, 0);
        check.due("MADE", made, () -> x.ofJob(0, 7));
        check.due(made + " of " + copies, due, () -> x.invoice(0));
    }

    /** "MADE, but no more than the sum of COPIES and COPIES / 10; it is QUOTE * these / COPIES". */
    private static void invoiceOfOversAndNoMore() {
        // 9 copies have no overs.
        overs(33, 33, 9, 9, 587);
        overs(49, 19, 9, 10, 587);
        // 10 have one: 587 * 11 / 10.
        overs(49, 19, 10, 10, 587);
        overs(9, 99, 10, 11, 645);
        overs(8, 99, 10, 12, 645);
        // 19 have one: 587 * 20 / 19.
        overs(24, 19, 19, 20, 617);
        overs(33, 14, 19, 21, 617);
        // 20 have two: 587 * 21 / 20, and 587 * 22 / 20.
        overs(33, 14, 20, 21, 616);
        overs(9, 49, 20, 22, 645);
        overs(4, 99, 20, 24, 645);
    }
}
