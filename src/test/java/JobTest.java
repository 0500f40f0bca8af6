/** Promises 6 to 11: jobs. Answers are worked out by hand from the document. */
public final class JobTest {
    private static final Check check = new Check();
    private static final int[] FAR = {-1, Integer.MIN_VALUE, Integer.MAX_VALUE};

    public static void main(String[] args) {
        howItLies();
        jobRefuses();
        twentyJobs();
        ofJobTells();
        expectedIsTold();
        expectedOfNothingLacking();
        orderQueues();
        againIsFirst();
        againRefuses();
        invoiceOfOvers();
        invoiceOfUnders();
        invoiceRefuses();
        check.end();
    }

    private static void lies(PrintLedger x, int paper, int wide, int high, int times, int turned, int leaves) {
        String call = "job(" + paper + ", " + wide + ", " + high + ")";
        int number = x.many(0);
        check.due(call, number, () -> x.job(paper, wide, high, 10, 1));
        check.due(call + " lies", times, () -> x.ofJob(number, 3));
        check.due(call + " turned", turned, () -> x.ofJob(number, 4));
        check.due(call + " leaves", leaves, () -> x.ofJob(number, 5));
    }

    private static void howItLies() {
        PrintLedger x = new PrintLedger();
        lies(x, 0, 30, 20, 4, 0, 3500 - 4 * 600);
        lies(x, 0, 20, 30, 4, 1, 3500 - 4 * 600);
        lies(x, 0, 10, 10, 35, 0, 0);
        lies(x, 0, 70, 50, 1, 0, 0);
        lies(x, 0, 50, 70, 1, 1, 0);
        lies(x, 0, 1, 1, 3500, 0, 0);
        // 2 times straight as well as turned: it stays straight.
        lies(x, 0, 30, 30, 2, 0, 3500 - 2 * 900);
        lies(x, 0, 34, 33, 2, 0, 3500 - 2 * 34 * 33);
        x.paper(3, 99, 99, 1);
        lies(x, 3, 99, 99, 1, 0, 0);
        lies(x, 3, 1, 99, 99, 0, 0);
        x.paper(2, 99, 20, 1);
        lies(x, 2, 21, 7, 8, 0, 99 * 20 - 8 * 147);
        lies(x, 2, 7, 21, 8, 1, 99 * 20 - 8 * 147);
    }

    private static void jobRefuses() {
        PrintLedger x = new PrintLedger();
        check.noPlace(x, "job(4, ..)", () -> x.job(4, 10, 10, 10, 1));
        check.noPlace(x, "job(4, 0, ..)", () -> x.job(4, 0, 0, 0, 0));
        check.wrongValue(x, "wide 0", () -> x.job(0, 0, 10, 10, 1));
        check.wrongValue(x, "wide 100", () -> x.job(0, 100, 10, 10, 1));
        check.wrongValue(x, "high 0", () -> x.job(0, 10, 0, 10, 1));
        check.wrongValue(x, "high 100", () -> x.job(0, 10, 100, 10, 1));
        check.wrongValue(x, "copies 0", () -> x.job(0, 10, 10, 0, 1));
        check.wrongValue(x, "copies 10000", () -> x.job(0, 10, 10, 10000, 1));
        check.wrongValue(x, "inks 0", () -> x.job(0, 10, 10, 10, 0));
        check.wrongValue(x, "inks 16", () -> x.job(0, 10, 10, 10, 16));
        check.wrongValue(x, "too wide both ways", () -> x.job(0, 71, 1, 10, 1));
        check.wrongValue(x, "too high both ways", () -> x.job(0, 1, 71, 10, 1));
        check.wrongValue(x, "too great", () -> x.job(0, 51, 51, 10, 1));
        for (int far : FAR) {
            check.noPlace(x, "job(" + far + ", ..)", () -> x.job(far, 10, 10, 10, 1));
            check.wrongValue(x, "wide " + far, () -> x.job(0, far, 10, 10, 1));
            check.wrongValue(x, "high " + far, () -> x.job(0, 10, far, 10, 1));
            check.wrongValue(x, "copies " + far, () -> x.job(0, 10, 10, far, 1));
            check.wrongValue(x, "inks " + far, () -> x.job(0, 10, 10, 10, far));
        }
        check.due("none was added", 0, () -> x.many(0));
    }

    private static void twentyJobs() {
        PrintLedger x = new PrintLedger();
        for (int k = 0; k < 20; k++) {
            int n = k;
            check.due("job " + n, n, () -> x.job(n % 4, 10, 10, 1 + n, 1 + n % 15));
        }
        check.wrongState(x, "the 21st", () -> x.job(0, 10, 10, 10, 1));
        check.wrongValue(x, "the 21st, wrong too", () -> x.job(0, 51, 51, 10, 1));
        check.noPlace(x, "the 21st, of no paper", () -> x.job(-1, 51, 51, 10, 1));
        check.due("paper", 3, () -> x.ofJob(19, 0));
        check.due("copies", 20, () -> x.ofJob(19, 1));
        check.due("inks", 5, () -> x.ofJob(19, 2));
        check.noPlace(x, "ofJob(20, 0)", () -> x.ofJob(20, 0));
    }

    private static void ofJobIs(PrintLedger x, int job, int... want) {
        for (int what = 0; what <= 12; what++) {
            int w = what;
            check.due("ofJob(" + job + ", " + w + ")", want[w], () -> x.ofJob(job, w));
        }
    }

    private static void ofJobTells() {
        PrintLedger x = new PrintLedger();
        x.job(1, 20, 30, 9999, 15);
        x.job(0, 10, 10, 1000, 3);
        ofJobIs(x, 0, 1, 9999, 15, 4, 1, 1100, 0, 0, 2500, 0, 0, 0, -1);
        ofJobIs(x, 1, 0, 1000, 3, 35, 0, 0, 0, 0, 29, 0, 0, 0, -1);
        // 35 sheets are needed, in 8 + 20 + 1 minutes: 290 + 400 + 175 = 865.
        x.order(1, 2);
        ofJobIs(x, 1, 0, 1000, 3, 35, 0, 0, 1, 0, 29, 1081, 0, 0, 2);
        x.buy(0, 1);
        x.slip(2, 50, 6);
        // 50 minutes and 2 inks are 900, 35 sheets are 175.
        ofJobIs(x, 1, 0, 1000, 3, 35, 0, 0, 2, 1015, 0, 1081, 1075, 0, 2);
        x.invoice(1);
        ofJobIs(x, 1, 0, 1000, 3, 35, 0, 0, 3, 1015, 0, 1081, 1075, 1097, 2);
        check.noPlace(x, "ofJob(2, 0)", () -> x.ofJob(2, 0));
        check.noPlace(x, "ofJob(2, 13)", () -> x.ofJob(2, 13));
        check.wrongValue(x, "ofJob(0, 13)", () -> x.ofJob(0, 13));
        for (int far : FAR) {
            check.noPlace(x, "ofJob(" + far + ", 0)", () -> x.ofJob(far, 0));
            check.wrongValue(x, "ofJob(0, " + far + ")", () -> x.ofJob(0, far));
        }
    }

    private static void expectedIs(PrintLedger x, int job, int press, int... want) {
        for (int what = 0; what <= 6; what++) {
            int w = what;
            check.due("expected(" + job + ", " + press + ", " + w + ")", want[w], () -> x.expected(job, press, w));
        }
    }

    private static void expectedIsTold() {
        PrintLedger x = new PrintLedger();
        x.job(0, 10, 10, 1000, 7);
        expectedIs(x, 0, 0, 2, 12, 11, 40, 54, 1340, 1675);
        x.towers(1, 4);
        expectedIs(x, 0, 1, 1, 12, 6, 35, 33, 1105, 1381);
        x.towers(1, 1);
        // 29 sheets, 1 + 15 spoiled; 12 + 60 + 45 * 30 * 3 / 1000 = 76 minutes.
        expectedIs(x, 0, 1, 3, 12, 16, 45, 76, 1585, 1981);
        x.towers(1, 3);
        expectedIs(x, 0, 1, 1, 12, 6, 35, 33, 1105, 1381);
        // NEEDED * RUN is 3000 here, and 9990 there.
        x.job(0, 70, 50, 91, 1);
        expectedIs(x, 1, 0, 1, 4, 9, 100, 27, 970, 1212);
        x.job(0, 70, 50, 313, 1);
        expectedIs(x, 2, 0, 1, 4, 20, 333, 33, 2195, 2743);
        x.terms(7, 0);
        expectedIs(x, 0, 0, 2, 12, 11, 40, 54, 378 + 600 + 200, 1178);
        x.terms(10, 200);
        expectedIs(x, 0, 0, 2, 12, 11, 40, 54, 1340, 4020);
        check.noPlace(x, "expected(3, 0, 0)", () -> x.expected(3, 0, 0));
        check.noPlace(x, "expected(3, 0, 7)", () -> x.expected(3, 0, 7));
        check.noPlace(x, "expected(0, 3, 0)", () -> x.expected(0, 3, 0));
        check.noPlace(x, "expected(0, 3, -1)", () -> x.expected(0, 3, -1));
        check.wrongValue(x, "expected(0, 0, 7)", () -> x.expected(0, 0, 7));
        for (int far : FAR) {
            check.noPlace(x, "expected(" + far + ", 0, 0)", () -> x.expected(far, 0, 0));
            check.noPlace(x, "expected(0, " + far + ", 0)", () -> x.expected(0, far, 0));
            check.wrongValue(x, "expected(0, 0, " + far + ")", () -> x.expected(0, 0, far));
        }
    }

    private static void expectedOfNothingLacking() {
        PrintLedger x = new PrintLedger();
        x.job(0, 10, 10, 1000, 3);
        x.order(0, 0);
        x.buy(0, 1);
        x.slip(0, 50, 6);
        // RUN is 179 and SPOIL 80; no sheet is lacking, but 5 are spoiled.
        expectedIs(x, 0, 0, 1, 0, 5, 5, 20, 200 + 400 + 25, 781);
        expectedIs(x, 0, 1, 1, 8, 5, 5, 28, 280 + 400 + 25, 881);
    }

    private static void orderQueues() {
        PrintLedger x = new PrintLedger();
        x.job(0, 10, 10, 1000, 3);
        x.job(0, 10, 10, 1000, 7);
        x.job(0, 10, 10, 100, 1);
        check.due("order(1, 0)", 1675, () -> x.order(1, 0));
        check.due("order(2, 0)", 600, () -> x.order(2, 0));
        check.due("order(0, 2)", 1081, () -> x.order(0, 2));
        check.due("first", 1, () -> x.queue(0, 0));
        check.due("last", 2, () -> x.queue(0, 1));
        check.due("on its press", 0, () -> x.queue(2, 0));
        check.due("state", 1, () -> x.ofJob(2, 6));
        check.due("press", 2, () -> x.ofJob(0, 12));
        x.terms(99, 100);
        check.due("the quote is as it was ordered", 1675, () -> x.ofJob(1, 9));
        check.wrongState(x, "order(1, 0) again", () -> x.order(1, 0));
        check.wrongState(x, "order(1, 1) again", () -> x.order(1, 1));
        check.noPlace(x, "order(3, 0)", () -> x.order(3, 0));
        check.noPlace(x, "order(0, 3)", () -> x.order(0, 3));
        for (int far : FAR) {
            check.noPlace(x, "order(" + far + ", 0)", () -> x.order(far, 0));
            check.noPlace(x, "order(0, " + far + ")", () -> x.order(0, far));
        }
        x.buy(0, 1);
        x.slip(2, 50, 0);
        check.wrongState(x, "order of a printed job", () -> x.order(0, 2));
        x.invoice(0);
        check.wrongState(x, "order of an invoiced job", () -> x.order(0, 2));
    }

    /** A shop with job 0 of 100 copies, one on a sheet, of which so many were made on press 1. */
    private static PrintLedger printed(int made) {
        PrintLedger x = new PrintLedger();
        x.job(0, 70, 50, 100, 1);
        x.order(0, 1);
        x.buy(0, 1);
        x.slip(1, 50, 250 - made);
        check.due("made", made, () -> x.ofJob(0, 7));
        return x;
    }

    private static void againIsFirst() {
        PrintLedger x = printed(60);
        x.job(0, 70, 50, 100, 1);
        x.job(0, 70, 50, 100, 1);
        x.order(2, 1);
        x.order(1, 1);
        int quote = x.ofJob(0, 9);
        check.due("again(0)", 40, () -> x.again(0));
        check.due("first", 0, () -> x.queue(1, 0));
        check.due("second", 2, () -> x.queue(1, 1));
        check.due("third", 1, () -> x.queue(1, 2));
        check.due("on no other press", 0, () -> x.ofPress(0, 5));
        check.due("queued", 1, () -> x.ofJob(0, 6));
        check.due("made stays", 60, () -> x.ofJob(0, 7));
        check.due("the quote stays", quote, () -> x.ofJob(0, 9));
        check.due("the press stays", 1, () -> x.ofJob(0, 12));
        check.wrongState(x, "again(0) when queued", () -> x.again(0));
    }

    private static void againRefuses() {
        PrintLedger x = printed(99);
        x.job(0, 70, 50, 100, 1);
        check.wrongState(x, "again of a new job", () -> x.again(1));
        check.noPlace(x, "again(2)", () -> x.again(2));
        for (int far : FAR) {
            check.noPlace(x, "again(" + far + ")", () -> x.again(far));
        }
        check.due("one is lacking", 1, () -> x.again(0));
        x.buy(0, 1);
        x.slip(1, 50, 0);
        check.due("made", 100, () -> x.ofJob(0, 7));
        check.wrongState(x, "nothing is lacking", () -> x.again(0));
        x.invoice(0);
        check.wrongState(x, "again of an invoiced job", () -> x.again(0));
        quoteOfOvers(x, 100);
        check.wrongState(x, "more than enough was made", () -> x.again(2));
        PrintLedger under = printed(95);
        under.invoice(0);
        check.wrongState(under, "again of an invoiced job that lacks some", () -> under.again(0));
    }

    /** A new job of pieces 1 wide and high, all of which are printed on one sheet. */
    private static int quoteOfOvers(PrintLedger x, int copies) {
        int job = x.job(0, 1, 1, copies, 1);
        int quote = x.order(job, 0);
        x.buy(0, 1);
        x.slip(0, 24, 0);
        check.due("made", 3500, () -> x.ofJob(job, 7));
        return quote;
    }

    private static void invoiceOfOvers() {
        PrintLedger x = new PrintLedger();
        x.job(0, 10, 10, 100, 1);
        check.due("quote", 600, () -> x.order(0, 0));
        x.buy(0, 1);
        x.slip(0, 24, 0);
        // 105 were made; 24 minutes and an ink were paid, and 250 sheets.
        int money = -1250 - 240 - 200;
        check.due("105 of 100", 630, () -> x.invoice(0));
        check.due("money", money + 630, () -> x.many(5));
        check.due("state", 3, () -> x.ofJob(0, 6));
        check.due("invoiced", 630, () -> x.ofJob(0, 11));
        int[] copies = {100, 109, 110, 9, 10};
        int[] most = {110, 119, 121, 9, 11};
        for (int k = 0; k < copies.length; k++) {
            int quote = quoteOfOvers(x, copies[k]);
            int job = k + 1;
            long due = (long) quote * most[k] / copies[k];
            check.due("overs of " + copies[k], due, () -> x.invoice(job));
        }
        // 6 sheets in 24 minutes: 240 + 200 + 30, and a quarter.
        x.job(0, 1, 1, 1, 1);
        x.order(6, 1);
        x.slip(1, 24, 0);
        check.due("one copy", 587, () -> x.invoice(6));
    }

    private static void invoiceOfUnders() {
        PrintLedger x = printed(95);
        // 100 sheets, 5 + 5 spoiled, 4 + 20 + 3 minutes: 270 + 200 + 550 = 1020.
        check.due("quote", 1275, () -> x.ofJob(0, 9));
        check.due("95 of 100", 1211, () -> x.invoice(0));
        PrintLedger few = printed(94);
        check.wrongState(few, "94 of 100", () -> few.invoice(0));
        PrintLedger little = new PrintLedger();
        little.job(0, 70, 50, 19, 1);
        little.order(0, 0);
        little.buy(0, 1);
        little.slip(0, 24, 232);
        check.due("made", 18, () -> little.ofJob(0, 7));
        check.wrongState(little, "18 of 19", () -> little.invoice(0));
        little.again(0);
        little.buy(0, 1);
        little.slip(0, 24, 0);
        // 19 sheets and 5 spoiled in 24 minutes: 240 + 200 + 120.
        check.due("19 of 19", 700, () -> little.invoice(0));
        PrintLedger exact = printed(100);
        check.due("100 of 100", 1275, () -> exact.invoice(0));
    }

    private static void invoiceRefuses() {
        PrintLedger x = new PrintLedger();
        x.job(0, 70, 50, 1, 1);
        check.wrongState(x, "invoice of a new job", () -> x.invoice(0));
        x.order(0, 0);
        check.wrongState(x, "invoice of a queued job", () -> x.invoice(0));
        x.buy(0, 1);
        x.slip(0, 24, 0);
        x.invoice(0);
        check.wrongState(x, "invoice of an invoiced job", () -> x.invoice(0));
        check.noPlace(x, "invoice(1)", () -> x.invoice(1));
        for (int far : FAR) {
            check.noPlace(x, "invoice(" + far + ")", () -> x.invoice(far));
        }
        PrintLedger under = printed(96);
        under.again(0);
        check.wrongState(under, "queued again", () -> under.invoice(0));
    }
}
