/** Promises 17 to 23: the ledger, and what would be. Answers are worked out by hand from the document. */
public final class LedgerTest {
    private static final Check check = new Check();
    private static final int[] FAR = {-1, Integer.MIN_VALUE, Integer.MAX_VALUE};

    public static void main(String[] args) {
        termsAreSet();
        manyIsTold();
        meanIsNotCut();
        bestPressIsFound();
        quoteBehindASlip();
        quoteBehindIsWhatASlipBrings();
        quoteBehindRefuses();
        profitIsTold();
        digestOfANewShop();
        digestOfABusyShop();
        check.end();
    }

    private static void termsAreSet() {
        PrintLedger x = new PrintLedger();
        check.due("terms(1, 0)", 0, () -> x.terms(1, 0));
        x.job(0, 10, 10, 100, 1);
        check.due("cost", 24 + 200 + 40, () -> x.expected(0, 0, 5));
        check.due("quote", 264, () -> x.expected(0, 0, 6));
        x.buy(0, 1);
        check.due("terms(99, 200)", -1250, () -> x.terms(99, 200));
        check.due("cost", 2376 + 200 + 40, () -> x.expected(0, 0, 5));
        check.due("quote", 3 * 2616, () -> x.expected(0, 0, 6));
        check.wrongValue(x, "wage 0", () -> x.terms(0, 25));
        check.wrongValue(x, "wage 100", () -> x.terms(100, 25));
        check.wrongValue(x, "margin 201", () -> x.terms(10, 201));
        for (int far : FAR) {
            check.wrongValue(x, "wage " + far, () -> x.terms(far, 25));
            check.wrongValue(x, "margin " + far, () -> x.terms(10, far));
        }
    }

    private static void manyAre(PrintLedger x, int... want) {
        for (int what = 0; what <= 10; what++) {
            int w = what;
            check.due("many(" + w + ")", want[w], () -> x.many(w));
        }
    }

    private static void manyIsTold() {
        PrintLedger x = new PrintLedger();
        x.job(0, 10, 10, 1000, 3);
        x.job(0, 10, 10, 100, 1);
        x.job(0, 10, 10, 100, 1);
        x.job(0, 10, 10, 100, 1);
        manyAre(x, 4, 4, 0, 0, 0, 0, 0, 0, 0, 0, 0);
        x.order(0, 0);
        x.order(1, 1);
        x.order(2, 2);
        manyAre(x, 4, 1, 3, 0, 0, 0, 0, 0, 0, 0, 0);
        x.buy(0, 1);
        x.slip(0, 50, 6);
        x.slip(1, 24, 4);
        // 900 + 175, and 440 + 7 * 5; 208 sheets are left.
        manyAre(x, 4, 1, 1, 2, 0, -1250 - 900 - 440, 0, 1075 + 475, 1040, 74, 10);
        // 1081 * 1015 / 1000.
        x.invoice(0);
        manyAre(x, 4, 1, 1, 1, 1, -2590 + 1097, 1097, 1550, 1040, 74, 10);
        x.invoice(1);
        manyAre(x, 4, 1, 1, 0, 2, -1493 + 630, 1727, 1550, 1040, 74, 10);
        x.paper(0, 70, 50, 9);
        x.buy(3, 2);
        manyAre(x, 4, 1, 1, 0, 2, -863 - 2500, 1727, 1550, 208 * 9 + 2500, 74, 10);
        check.wrongValue(x, "many(11)", () -> x.many(11));
        for (int far : FAR) {
            check.wrongValue(x, "many(" + far + ")", () -> x.many(far));
        }
    }

    private static void meanIsNotCut() {
        PrintLedger x = new PrintLedger();
        check.due("mean of none", 0.0, x.meanInvoice());
        x.job(0, 10, 10, 1000, 3);
        x.job(0, 10, 10, 100, 1);
        x.job(0, 10, 10, 100, 1);
        x.order(0, 0);
        x.order(1, 1);
        x.order(2, 2);
        x.buy(0, 1);
        x.slip(0, 50, 6);
        x.slip(1, 24, 4);
        x.slip(2, 24, 4);
        check.due("mean of none", 0.0, x.meanInvoice());
        x.invoice(0);
        check.due("mean of one", 1097.0, x.meanInvoice());
        x.invoice(1);
        check.due("mean of two", 863.5, x.meanInvoice());
        x.invoice(2);
        check.due("mean of three", 2357.0 / 3, x.meanInvoice());
    }

    private static void bestPressIsFound() {
        PrintLedger x = new PrintLedger();
        x.job(0, 10, 10, 1000, 7);
        check.due("of several the smallest", 0, () -> x.bestPress(0));
        x.towers(2, 4);
        check.due("fewer passes", 2, () -> x.bestPress(0));
        x.towers(1, 3);
        check.due("of two the smallest", 1, () -> x.bestPress(0));
        x.towers(1, 1);
        x.towers(2, 1);
        check.due("more passes elsewhere", 0, () -> x.bestPress(0));
        x.job(0, 10, 10, 1000, 8);
        x.order(1, 2);
        x.buy(0, 1);
        x.slip(2, 25, 0);
        x.job(0, 10, 10, 1000, 8);
        check.due("its ink is there", 2, () -> x.bestPress(2));
        check.due("a printed one can be asked for", 2, () -> x.bestPress(1));
        // Of MARGIN 0 to 200 the COST takes no heed.
        x.terms(99, 200);
        check.due("by cost", 2, () -> x.bestPress(2));
        check.noPlace(x, "bestPress(3)", () -> x.bestPress(3));
        for (int far : FAR) {
            check.noPlace(x, "bestPress(" + far + ")", () -> x.bestPress(far));
        }
    }

    private static void quoteBehindASlip() {
        PrintLedger x = new PrintLedger();
        x.job(0, 10, 10, 1000, 3);
        x.job(0, 10, 10, 1000, 2);
        x.order(0, 0);
        x.buy(0, 1);
        long before = x.digest();
        // Now 35 sheets in 4 + 20 + 1 minutes: 250 + 200 + 175 = 625, and a quarter is 781.
        // Behind it RUN is 179, SPOIL 80, and its ink is there: 29 + 2 + 5 sheets,
        // 20 + 6 minutes: 260 + 200 + 180 = 640, and a quarter is 800.
        check.due("of another job", 19, () -> x.quoteBehind(0, 50, 6, 1));
        // Now 1081; behind it nothing is lacking: 5 sheets, 20 minutes: 200 + 400 + 25 = 625.
        check.due("of the job itself", 781 - 1081, () -> x.quoteBehind(0, 50, 6, 0));
        check.due("nothing is changed", before, x::digest);
        check.due("made stays", 0, () -> x.ofJob(0, 7));
        check.due("good as if it had not been asked", 29, () -> x.slip(0, 50, 6));
    }

    private static void quoteBehindIsWhatASlipBrings() {
        int[] minutes = {1, 20, 100, 9999};
        int[] spoiled = {0, 3, 100, 249};
        for (int m : minutes) {
            for (int s : spoiled) {
                for (int k = 0; k < 4; k++) {
                    int job = k;
                    PrintLedger x = busyShop();
                    PrintLedger y = busyShop();
                    int quote = y.expected(job, 1, 6);
                    y.slip(1, m, s);
                    int due = y.expected(job, 1, 6) - quote;
                    long before = x.digest();
                    check.due("quoteBehind(1, " + m + ", " + s + ", " + job + ")", due,
                            () -> x.quoteBehind(1, m, s, job));
                    check.due("nothing is changed", before, x::digest);
                }
            }
        }
    }

    /**
     * Job 0 is printed, 1 is queued again and 2 is behind it on press 1, 3 is new; 250 sheets of
     * paper 2 are there. READY, RUN and SPOIL of press 1 are not those of a new one.
     */
    private static PrintLedger busyShop() {
        PrintLedger x = new PrintLedger();
        x.towers(1, 1);
        x.paper(2, 64, 45, 3);
        x.job(0, 10, 10, 1000, 5);
        x.job(2, 21, 29, 2000, 7);
        x.job(2, 12, 29, 3000, 15);
        x.job(3, 12, 29, 999, 8);
        x.buy(0, 1);
        x.buy(2, 1);
        x.order(0, 1);
        x.order(1, 1);
        x.order(2, 1);
        x.slip(1, 66, 5);
        x.slip(1, 30, 3);
        x.buy(2, 1);
        x.again(1);
        return x;
    }

    private static void quoteBehindRefuses() {
        PrintLedger x = new PrintLedger();
        x.job(0, 70, 50, 100, 1);
        check.wrongState(x, "an empty queue", () -> x.quoteBehind(0, 1, 0, 0));
        check.wrongValue(x, "an empty queue, wrong minutes", () -> x.quoteBehind(0, 0, 0, 0));
        check.noPlace(x, "an empty queue, no job", () -> x.quoteBehind(0, 0, 0, 1));
        x.order(0, 0);
        check.wrongState(x, "no stock", () -> x.quoteBehind(0, 1, 0, 0));
        x.buy(0, 1);
        check.wrongState(x, "all spoiled", () -> x.quoteBehind(0, 1, 250, 0));
        check.wrongValue(x, "minutes 10000", () -> x.quoteBehind(0, 10000, 0, 0));
        check.wrongValue(x, "spoiled 10000", () -> x.quoteBehind(0, 1, 10000, 0));
        check.noPlace(x, "no press", () -> x.quoteBehind(3, 0, 0, 0));
        for (int far : FAR) {
            check.noPlace(x, "press " + far, () -> x.quoteBehind(far, 1, 0, 0));
            check.noPlace(x, "job " + far, () -> x.quoteBehind(0, 1, 0, far));
            check.wrongValue(x, "minutes " + far, () -> x.quoteBehind(0, far, 0, 0));
            check.wrongValue(x, "spoiled " + far, () -> x.quoteBehind(0, 1, far, 0));
        }
    }

    private static void profitIsTold() {
        PrintLedger x = new PrintLedger();
        x.job(0, 70, 50, 100, 1);
        check.due("of a new job", 0, () -> x.profit(0));
        x.order(0, 0);
        check.due("of a queued job", 0, () -> x.profit(0));
        x.buy(0, 1);
        x.slip(0, 50, 200);
        // 50 of 100 pieces at 1275, less 500 + 200 + 1250; it cannot be invoiced.
        check.due("of too few pieces", 637 - 1950, () -> x.profit(0));
        x.terms(99, 200);
        check.due("by the quote as it was ordered", 637 - 1950, () -> x.profit(0));
        x.again(0);
        check.due("of a queued job with pieces", 637 - 1950, () -> x.profit(0));
        x.buy(0, 1);
        x.slip(0, 1, 0);
        check.due("of all pieces", 1275 - 1950 - 99 - 250, () -> x.profit(0));
        x.invoice(0);
        check.due("of an invoiced job", 1275 - 1950 - 99 - 250, () -> x.profit(0));
        x.terms(10, 25);
        x.job(0, 1, 1, 100, 1);
        x.order(1, 1);
        x.slip(1, 24, 0);
        // 587 for 100; 3500 were made, 110 count; 240 + 200 + 5 were spent.
        check.due("of overs", 645 - 445, () -> x.profit(1));
        check.noPlace(x, "profit(2)", () -> x.profit(2));
        for (int far : FAR) {
            check.noPlace(x, "profit(" + far + ")", () -> x.profit(far));
        }
    }

    private static void digestOfANewShop() {
        long d = 58117;
        int[] paper = {70, 50, 5, 0, 0, 0};
        int[] press = {2, 0, 20, 30, 50, 0, 0};
        for (int k = 0; k < 11; k++) {
            d = d * 31;
        }
        for (int k = 0; k < 4 * paper.length; k++) {
            d = d * 31 + paper[k % paper.length];
        }
        for (int k = 0; k < 3 * press.length; k++) {
            d = d * 31 + press[k % press.length];
        }
        check.due("digest()", d, () -> new PrintLedger().digest());
    }

    private static void digestOfABusyShop() {
        PrintLedger x = busyShop();
        check.due("digest()", digestByTheFace(x), x::digest);
        x.slip(1, 99, 9);
        x.order(3, 2);
        x.again(1);
        x.sort(1);
        check.due("digest()", digestByTheFace(x), x::digest);
        x.towers(2, 4);
        check.due("the best press is not the first", 2, () -> x.bestPress(2));
        check.due("digest()", digestByTheFace(x), x::digest);
    }

    private static long digestByTheFace(PrintLedger x) {
        java.util.List<Integer> numbers = new java.util.ArrayList<>();
        for (int what = 0; what <= 10; what++) {
            numbers.add(x.many(what));
        }
        for (int k = 0; k < 24; k++) {
            numbers.add(x.ofPaper(k / 6, k % 6));
        }
        for (int press = 0; press < 3; press++) {
            for (int what = 0; what <= 6; what++) {
                numbers.add(x.ofPress(press, what));
            }
            for (int place = 0; place < x.ofPress(press, 5); place++) {
                numbers.add(x.queue(press, place));
            }
        }
        for (int job = 0; job < x.many(0); job++) {
            for (int what = 0; what <= 12; what++) {
                numbers.add(x.ofJob(job, what));
            }
            for (int k = 0; k < 8; k++) {
                numbers.add(x.expected(job, k / 4, 3 + k % 4));
            }
            numbers.add(x.bestPress(job));
            numbers.add(x.profit(job));
        }
        long d = 58117;
        for (int v : numbers) {
            d = d * 31 + v;
        }
        return d;
    }
}
