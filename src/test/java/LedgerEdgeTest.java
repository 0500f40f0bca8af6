import java.math.BigInteger;
import java.util.ArrayList;
import java.util.List;
import java.util.function.Supplier;

/** The boundary cases of promises 17 to 23, each sentence by itself. */
public final class LedgerEdgeTest {
    private static final Check check = new Check();

    public static void main(String[] args) {
        termsAtTheirEnds();
        termsAreKeptWhenRefused();
        manyOfNothing();
        manyInEachState();
        manyOfAllTogether();
        worthByPricesNow();
        meanOfNone();
        meanIsNotCut();
        bestOfSeveralIsTheSmallest();
        bestByOneMinute();
        bestOfAnyState();
        quoteBehindGreaterSmallerAndAlike();
        quoteBehindOfTheOneThatIsTold();
        quoteBehindOfAnyState();
        quoteBehindJustEnoughStock();
        quoteBehindAtItsEnds();
        profitWithoutAnOrder();
        profitOfTooFew();
        profitOfOversAndNoMore();
        digestWithoutJobs();
        digestWrapsAround();
        digestOfTwentyJobs();
        check.end();
    }

    /** "wage is not 1 to 99, or margin is not 0 to 200". */
    private static void termsAtTheirEnds() {
        PrintLedger x = new PrintLedger();
        Shops.whole(x, 1, 1);
        x.terms(1, 0);
        check.due("COST with the least", 24 + 200 + 30, () -> x.expected(0, 0, 5));
        check.due("QUOTE with the least", 254, () -> x.expected(0, 0, 6));
        x.terms(99, 200);
        check.due("COST with the most", 24 * 99 + 200 + 30, () -> x.expected(0, 0, 5));
        check.due("QUOTE with the most", 3 * 2606, () -> x.expected(0, 0, 6));
        x.order(0, 0);
        x.buy(0, 1);
        x.slip(0, 24, 0);
        check.due("what it COST with the most", 24 * 99 + 200 + 5, () -> x.ofJob(0, 10));
        check.due("MONEY", -1250 - 24 * 99 - 200, () -> x.terms(1, 0));
    }

    private static void termsAreKeptWhenRefused() {
        PrintLedger x = new PrintLedger();
        Shops.whole(x, 1, 1);
        check.wrongValue(x, "WAGE 0", () -> x.terms(0, 200));
        check.wrongValue(x, "WAGE 100", () -> x.terms(100, 200));
        check.wrongValue(x, "MARGIN -1", () -> x.terms(99, -1));
        check.wrongValue(x, "MARGIN 201", () -> x.terms(99, 201));
        check.wrongValue(x, "both", () -> x.terms(0, 201));
        check.due("COST with WAGE 10", 470, () -> x.expected(0, 0, 5));
        check.due("QUOTE with MARGIN 25", 587, () -> x.expected(0, 0, 6));
    }

    private static void manyAre(PrintLedger x, int... want) {
        for (int k = 0; k < want.length; k++) {
            int what = k;
            check.due("many(" + k + ")", want[k], () -> x.many(what));
        }
    }

    private static void manyOfNothing() {
        PrintLedger x = new PrintLedger();
        manyAre(x, 0, 0, 0, 0, 0, 0, 0, 0, 0, 0, 0);
        check.wrongValue(x, "many(-1)", () -> x.many(-1));
        check.wrongValue(x, "many(11)", () -> x.many(11));
    }

    /** "0 JOBS, 1 to 4 those that are NEW, QUEUED, PRINTED, INVOICED": all 20 in one of these. */
    private static void manyInEachState() {
        PrintLedger x = new PrintLedger();
        for (int k = 0; k < 20; k++) {
            Shops.whole(x, 1, 1);
        }
        manyAre(x, 20, 20, 0, 0, 0);
        for (int k = 0; k < 20; k++) {
            x.order(k, 0);
        }
        manyAre(x, 20, 0, 20, 0, 0);
        x.buy(0, 1);
        for (int k = 0; k < 20; k++) {
            x.slip(0, 24, 0);
        }
        manyAre(x, 20, 0, 0, 20, 0);
        for (int k = 0; k < 20; k++) {
            x.invoice(k);
        }
        // Each had the QUOTE 587, and COST 24 * 10 + 200 + 5.
        manyAre(x, 20, 0, 0, 0, 20, -1250 + 20 * (587 - 440), 20 * 587, 20 * 445, 230 * 5, 20 * 24, 0);
    }

    /** "6 the money of all INVOICES, 7 what all JOBS COST together, .. 9 all MINUTES .., 10 all .. SPOILED". */
    private static void manyOfAllTogether() {
        PrintLedger x = Shops.threePrinted();
        int minutes = 3 * 50;
        int spoiled = 3 * 154;
        int cost = 3 * (500 + 1250) + 200 + 200 + 400;
        manyAre(x, 3, 0, 0, 3, 0, -cost, 0, cost, 0, minutes, spoiled);
        // 110 sheets in 27, 27 and 31 minutes: 1020, 1020 and 1260 are QUOTED as 1275, 1275 and 1575.
        check.due("96 of 100", 1224, () -> x.invoice(0));
        check.due("96 of 100", 1512, () -> x.invoice(2));
        manyAre(x, 3, 0, 0, 1, 2, 2736 - cost, 2736, cost, 0, minutes, spoiled);
        x.again(1);
        x.buy(0, 1);
        x.slip(1, 1, 200);
        manyAre(x, 3, 0, 0, 1, 2, 2736 - cost - 1250 - 10, 2736, cost + 10 + 204 * 5, 46 * 5, minutes + 1,
                spoiled + 200);
    }

    /** "what the STOCK is worth by PRICES": those of now, of all PAPERS. */
    private static void worthByPricesNow() {
        PrintLedger x = new PrintLedger();
        for (int paper = 0; paper < 4; paper++) {
            x.buy(paper, paper + 1);
        }
        check.due("at 5 each", 2500 * 5, () -> x.many(8));
        x.paper(0, 70, 50, 1);
        x.paper(3, 70, 50, 99);
        check.due("at 1, 5, 5 and 99", 250 + 1250 * 5 + 99000, () -> x.many(8));
        check.due("MONEY by the PRICES then", -12500, () -> x.many(5));
    }

    /** "0 without an INVOICE". */
    private static void meanOfNone() {
        PrintLedger x = new PrintLedger();
        check.due("no JOBS", 0.0, x.meanInvoice());
        check.due("NEW", 0.0, Shops.threeNew().meanInvoice());
        check.due("QUEUED", 0.0, Shops.threeQueued().meanInvoice());
        PrintLedger printed = Shops.threePrinted();
        check.due("PRINTED", 0.0, printed.meanInvoice());
        printed.invoice(1);
        check.due("one INVOICE, and two JOBS without", 1224.0, printed.meanInvoice());
    }

    /** "what was INVOICED on the mean, not cut". */
    private static void meanIsNotCut() {
        PrintLedger x = Shops.threePrinted();
        x.invoice(0);
        x.invoice(2);
        check.due("of two", 1368.0, x.meanInvoice());
        x.invoice(1);
        check.due("of three", 1320.0, x.meanInvoice());
        Shops.wholeOrdered(x, 1, 1, 0);
        x.buy(0, 1);
        x.slip(0, 24, 0);
        int last = x.invoice(3);
        check.due("of four", (3960.0 + last) / 4, x.meanInvoice());
        check.due("the last one is odd", 1, () -> last % 4 == 0 ? 0 : 1);
    }

    /** "of several the smallest". */
    private static void bestOfSeveralIsTheSmallest() {
        int[][] towers = {{2, 2, 2}, {1, 2, 2}, {2, 1, 2}, {2, 2, 1}, {1, 1, 2}, {1, 2, 1}, {2, 1, 1}, {4, 3, 2},
            {1, 3, 4}, {1, 4, 3}, {3, 2, 4}};
        // The JOB has 4 INKS: 4, 2, 2 and 1 PASSES with 1, 2, 3 and 4 TOWERS.
        int[] best = {0, 1, 0, 0, 2, 1, 0, 0, 2, 1, 2};
        for (int k = 0; k < towers.length; k++) {
            PrintLedger x = new PrintLedger();
            Shops.whole(x, 100, 15);
            for (int press = 0; press < 3; press++) {
                x.towers(press, towers[k][press]);
            }
            check.due("best of row " + k, best[k], () -> x.bestPress(0));
        }
    }

    /** The least COST by 1 minute at WAGE 1, which is 1. */
    private static void bestByOneMinute() {
        for (int k = 0; k < 3; k++) {
            int better = k;
            PrintLedger x = new PrintLedger();
            x.terms(1, 0);
            Shops.whole(x, 1, 1);
            x.buy(0, 1);
            for (int press = 0; press < 3; press++) {
                Shops.wholeOrdered(x, 1, 1, press);
                x.slip(press, press == better ? 20 : 23, 0);
            }
            // READY is (60 + 16) / 4 = 19 there, and (60 + 19) / 4 = 19 elsewhere: alike.
            check.due("alike", 0, () -> x.bestPress(0));
            Shops.wholeOrdered(x, 1, 1, better);
            x.slip(better, 15, 0);
            check.due("READY is 18 there", 18, () -> x.ofPress(better, 2));
            check.due("less by one", x.expected(0, (better + 1) % 3, 5) - 1, () -> x.expected(0, better, 5));
            check.due("the one with less", better, () -> x.bestPress(0));
        }
    }

    private static void bestOfAnyState() {
        PrintLedger x = Shops.threeNew();
        x.towers(2, 1);
        x.towers(0, 1);
        int[] best = {0, 0, 1};
        for (int k = 0; k < 3; k++) {
            int job = k;
            check.due("NEW", best[k], () -> x.bestPress(job));
            x.order(job, 2);
            check.due("QUEUED", best[k], () -> x.bestPress(job));
        }
        x.buy(0, 1);
        x.slip(2, 24, 0);
        check.due("PRINTED, its INK in the PRESS", 2, () -> x.bestPress(0));
        x.invoice(0);
        check.due("INVOICED", 2, () -> x.bestPress(0));
        check.noPlace(x, "no such JOB", () -> x.bestPress(3));
        check.noPlace(new PrintLedger(), "no JOBS", () -> new PrintLedger().bestPress(0));
    }

    /** "by how much the QUOTE .. would be greater (below 0: smaller) behind such a SLIP". */
    private static void quoteBehindGreaterSmallerAndAlike() {
        PrintLedger x = new PrintLedger();
        Shops.wholeOrdered(x, 100, 1, 0);
        Shops.whole(x, 1, 2);
        Shops.whole(x, 1, 1);
        x.buy(0, 1);
        // 6 sheets in 24 minutes: 587. Its INK is not in the PRESS then either, RUN is 22: alike.
        check.due("alike", 0, () -> x.quoteBehind(0, 24, 5, 1));
        // The other one has its INK there: 20 minutes, 430, 537.
        check.due("smaller", 537 - 587, () -> x.quoteBehind(0, 24, 5, 2));
        // RUN is (90 + 40000 / 105) / 4 = 117; with 100 more of REST 355 and then 2 minutes.
        check.due("as the cut is", 0, () -> x.quoteBehind(0, 64, 5, 1));
        check.due("greater", (470 + 20) * 5 / 4 - 587, () -> x.quoteBehind(0, 164, 5, 1));
        // READY is 15 behind 1 minute: 420, 525.
        check.due("smaller with less READY", 525 - 587, () -> x.quoteBehind(0, 1, 5, 1));
    }

    private static void quoteBehindOfTheOneThatIsTold() {
        PrintLedger x = new PrintLedger();
        Shops.wholeOrdered(x, 100, 1, 1);
        x.buy(0, 1);
        long before = x.digest();
        // All are GOOD: 5 sheets in 20 minutes: 200 + 200 + 25, against 1275.
        check.due("nothing LACKING then", 531 - 1275, () -> x.quoteBehind(1, 24, 0, 0));
        // 40 are GOOD, SPOIL is (150 + 840) / 4 = 247: 60 + 14 + 5 sheets in 20 + 1 minutes.
        check.due("60 LACKING then", (210 + 200 + 79 * 5) * 5 / 4 - 1275, () -> x.quoteBehind(1, 24, 210, 0));
        check.due("MADE as it was", 0, () -> x.ofJob(0, 7));
        check.due("SHEETS as they were", 100, () -> x.ofJob(0, 8));
        check.due("nothing is changed", before, x::digest);
        check.noPlace(x, "of another PRESS", () -> x.quoteBehind(3, 24, 0, 0));
        check.wrongState(x, "of a PRESS without a QUEUE", () -> x.quoteBehind(0, 24, 0, 0));
    }

    /** The JOB can be NEW, QUEUED elsewhere, PRINTED or INVOICED: what a SLIP and a look then tell. */
    private static void quoteBehindOfAnyState() {
        for (int k = 0; k < 20; k++) {
            int job = k;
            for (int press = 0; press < 3; press++) {
                int on = press;
                PrintLedger x = Shops.busy();
                PrintLedger then = Shops.busy();
                Shops.buyLots(x, 3, 3);
                Shops.buyLots(then, 3, 3);
                Shops.buyLots(x, 2, 3);
                Shops.buyLots(then, 2, 3);
                int due = -then.expected(job, on, 6);
                then.slip(on, 77, 11);
                due += then.expected(job, on, 6);
                long before = x.digest();
                check.due("quoteBehind(" + on + ", 77, 11, " + job + ")", due, () -> x.quoteBehind(on, 77, 11, job));
                check.due("nothing is changed", before, x::digest);
            }
        }
    }

    /** "Throws IllegalStateException as with slip()". */
    private static void quoteBehindJustEnoughStock() {
        PrintLedger x = new PrintLedger();
        Shops.whole(x, 1000, 1);
        check.wrongState(x, "an empty QUEUE", () -> x.quoteBehind(0, 24, 0, 0));
        x.order(0, 0);
        check.wrongState(x, "0 of 0", () -> x.quoteBehind(0, 24, 0, 0));
        x.buy(1, 1);
        check.wrongState(x, "0 of 0, some of another PAPER", () -> x.quoteBehind(0, 24, 0, 0));
        x.buy(0, 1);
        check.wrongState(x, "250 of 250", () -> x.quoteBehind(0, 24, 250, 0));
        check.wrongState(x, "251 of 250", () -> x.quoteBehind(0, 24, 251, 0));
        // 999 are LACKING, SPOIL is (150 + 996) / 4 = 286, RUN 22: 999 + 285 + 5 in 20 + 28 minutes.
        int before = x.expected(0, 0, 6);
        int due = (480 + 200 + 1289 * 5) * 5 / 4 - before;
        check.due("249 of 250", due, () -> x.quoteBehind(0, 24, 249, 0));
    }

    /** "Throws IllegalArgumentException as with slip()". */
    private static void quoteBehindAtItsEnds() {
        PrintLedger x = Shops.threeQueuedWithStock();
        check.wrongValue(x, "minutes 0", () -> x.quoteBehind(0, 0, 0, 1));
        check.wrongValue(x, "minutes 10000", () -> x.quoteBehind(0, 10000, 0, 1));
        check.wrongValue(x, "spoiled -1", () -> x.quoteBehind(0, 1, -1, 1));
        check.wrongValue(x, "spoiled 10000", () -> x.quoteBehind(0, 1, 10000, 1));
        check.noPlace(x, "no such JOB", () -> x.quoteBehind(0, 1, 0, 3));
        // 110 sheets in 27 minutes are 1275. READY is 15, SPOIL 37: 108 sheets in 22 minutes.
        check.due("1 and 0", (220 + 200 + 540) * 5 / 4 - 1275, () -> x.quoteBehind(0, 1, 0, 1));
        // RUN is (90 + 9975000 / 10000) / 4 = 271, SPOIL 287: 100 + 28 + 5 sheets in 24 + 36 minutes.
        check.due("9999 and 9999", (600 + 200 + 665) * 5 / 4 - 1275, () -> x.quoteBehind(0, 9999, 9999, 1));
    }

    /** "by the QUOTE as it was ordered", which is 0 if it was not; "less what it COST". */
    private static void profitWithoutAnOrder() {
        PrintLedger x = new PrintLedger();
        check.noPlace(x, "no JOBS", () -> x.profit(0));
        Shops.whole(x, 100, 1);
        check.due("NEW", 0, () -> x.profit(0));
        x.order(0, 0);
        check.due("QUEUED, nothing MADE and no COST", 0, () -> x.profit(0));
        check.noPlace(x, "no such JOB", () -> x.profit(1));
    }

    /** "what it would be INVOICED now (also if it cannot be)". */
    private static void profitOfTooFew() {
        int[] made = {1, 94, 95, 99, 100};
        // 1275 * MADE / 100.
        int[] worth = {12, 1198, 1211, 1262, 1275};
        for (int k = 0; k < made.length; k++) {
            PrintLedger x = Shops.printed(made[k], 100);
            check.due("COST", 240 + 200 + 1250, () -> x.ofJob(0, 10));
            check.due("PRINTED with " + made[k], worth[k] - 1690, () -> x.profit(0));
            if (made[k] >= 95) {
                check.due("INVOICED", worth[k], () -> x.invoice(0));
                check.due("and the same then", worth[k] - 1690, () -> x.profit(0));
            } else {
                check.wrongState(x, "it cannot be INVOICED", () -> x.invoice(0));
                x.again(0);
                check.due("QUEUED again", worth[k] - 1690, () -> x.profit(0));
            }
        }
    }

    private static void overs(int wide, int high, int copies, int worth) {
        PrintLedger x = new PrintLedger();
        x.paper(0, 99, 99, 5);
        x.job(0, wide, high, copies, 1);
        x.order(0, 0);
        x.buy(0, 1);
        x.slip(0, 24, 0);
        x.terms(99, 200);
        check.due("profit of " + copies, worth - 445, () -> x.profit(0));
        check.due("INVOICE of " + copies, worth, () -> x.invoice(0));
        check.due("profit then", worth - 445, () -> x.profit(0));
    }

    /** "no more than the sum of COPIES and COPIES / 10", with a QUOTE of 587. */
    private static void profitOfOversAndNoMore() {
        overs(49, 19, 9, 587);
        overs(9, 99, 10, 645);
        overs(8, 99, 10, 645);
        overs(33, 14, 20, 616);
        overs(4, 99, 20, 645);
        overs(1, 1, 9801, 587);
        overs(1, 1, 8910, 645);
        overs(1, 1, 8909, 645);
    }

    /** "A number d starts with 58117". */
    private static void digestWithoutJobs() {
        check.due("digest()", byGreatNumbers(numbersOf(PrintLedger::new)), () -> new PrintLedger().digest());
        check.due("numbers without JOBS", 11 + 24 + 21, () -> numbersOf(PrintLedger::new).size());
        PrintLedger x = new PrintLedger();
        x.terms(99, 200);
        check.due("WAGE and MARGIN are not among them", new PrintLedger().digest(), x::digest);
    }

    private static PrintLedger moneyBelowNone() {
        PrintLedger x = new PrintLedger();
        x.buy(0, 1);
        return x;
    }

    private static PrintLedger oneNewJob() {
        PrintLedger x = moneyBelowNone();
        Shops.whole(x, 1, 1);
        return x;
    }

    /** "which wraps around as a 64-bit integer", with numbers below 0 among them. */
    private static void digestWrapsAround() {
        List<Integer> numbers = numbersOf(LedgerEdgeTest::moneyBelowNone);
        check.due("MONEY below 0 is among them", -1250, () -> numbers.get(5));
        check.due("digest()", byGreatNumbers(numbers), () -> moneyBelowNone().digest());
        List<Integer> more = numbersOf(LedgerEdgeTest::oneNewJob);
        check.due("NONE is among them", -1, () -> more.get(56 + 12));
        check.due("digest()", byGreatNumbers(more), () -> oneNewJob().digest());
    }

    private static PrintLedger sortedQueue() {
        PrintLedger x = Shops.fullQueue(2, 1, 2, 4);
        x.sort(2);
        return x;
    }

    private static void digestOfTwentyJobs() {
        check.due("digest()", byGreatNumbers(numbersOf(Shops::busy)), () -> Shops.busy().digest());
        long full = byGreatNumbers(numbersOf(() -> Shops.fullQueue(2, 1, 2, 4)));
        check.due("of a full QUEUE", full, () -> Shops.fullQueue(2, 1, 2, 4).digest());
        check.due("of a sorted QUEUE", byGreatNumbers(numbersOf(LedgerEdgeTest::sortedQueue)),
                () -> sortedQueue().digest());
    }

    /** Each JOB is asked in a shop of its own, so that none is asked more than 512 times. */
    private static List<Integer> numbersOf(Supplier<PrintLedger> shops) {
        List<Integer> numbers = new ArrayList<>();
        PrintLedger x = shops.get();
        for (int what = 0; what <= 10; what++) {
            numbers.add(x.many(what));
        }
        for (int paper = 0; paper < 4; paper++) {
            for (int what = 0; what <= 5; what++) {
                numbers.add(x.ofPaper(paper, what));
            }
        }
        for (int press = 0; press < 3; press++) {
            for (int what = 0; what <= 6; what++) {
                numbers.add(x.ofPress(press, what));
            }
            int waiting = x.ofPress(press, 5);
            for (int place = 0; place < waiting; place++) {
                numbers.add(x.queue(press, place));
            }
        }
        int jobs = x.many(0);
        for (int job = 0; job < jobs; job++) {
            addJob(shops.get(), job, numbers);
        }
        return numbers;
    }

    /** "expected() of 3 to 6 on the PRESSES 0 and 1 (all four on 0 first), bestPress(), profit()". */
    private static void addJob(PrintLedger x, int job, List<Integer> numbers) {
        for (int what = 0; what <= 12; what++) {
            numbers.add(x.ofJob(job, what));
        }
        for (int press = 0; press <= 1; press++) {
            for (int what = 3; what <= 6; what++) {
                numbers.add(x.expected(job, press, what));
            }
        }
        numbers.add(x.bestPress(job));
        numbers.add(x.profit(job));
    }

    private static long byGreatNumbers(List<Integer> numbers) {
        BigInteger d = BigInteger.valueOf(58117);
        for (int v : numbers) {
            d = d.multiply(BigInteger.valueOf(31)).add(BigInteger.valueOf(v));
        }
        return d.longValue();
    }
}
