/** Promises 12 to 16: presses. Answers are worked out by hand from the document. */
public final class PressTest {
    private static final Check check = new Check();
    private static final int[] FAR = {-1, Integer.MIN_VALUE, Integer.MAX_VALUE};

    public static void main(String[] args) {
        towersAreSet();
        minutesOfAQueue();
        ofPressRefuses();
        queuePlaces();
        sortIsLess();
        sortKeepsTheFirstOfSeveral();
        sortCanBeMore();
        sortGoesOnWithTheInksAhead();
        sortBeginsWithTheInksOfThePress();
        slipIsTold();
        slipLearns();
        slipLearnsExactly();
        slipLearnsByPasses();
        slipWithFewSheets();
        ratesHaveEnds();
        secondSlipPaysNoInks();
        slipRefuses();
        check.end();
    }

    private static void towersAreSet() {
        PrintLedger x = new PrintLedger();
        check.due("towers(0, 4)", 2, () -> x.towers(0, 4));
        check.due("towers(0, 1)", 4, () -> x.towers(0, 1));
        check.due("ofPress(0, 0)", 1, () -> x.ofPress(0, 0));
        check.due("ofPress(1, 0)", 2, () -> x.ofPress(1, 0));
        check.due("towers(2, 3)", 2, () -> x.towers(2, 3));
        check.noPlace(x, "towers(3, 2)", () -> x.towers(3, 2));
        check.noPlace(x, "towers(3, 0)", () -> x.towers(3, 0));
        check.wrongValue(x, "towers(0, 0)", () -> x.towers(0, 0));
        check.wrongValue(x, "towers(0, 5)", () -> x.towers(0, 5));
        for (int far : FAR) {
            check.noPlace(x, "towers(" + far + ", 2)", () -> x.towers(far, 2));
            check.wrongValue(x, "towers(0, " + far + ")", () -> x.towers(0, far));
        }
    }

    /** Adds a job of 35 sheets with such inks, and orders it. */
    private static int ordered(PrintLedger x, int press, int inks) {
        int job = x.job(0, 10, 10, 1000, inks);
        x.order(job, press);
        return job;
    }

    private static void minutesOfAQueue() {
        PrintLedger x = new PrintLedger();
        check.due("an empty queue", 0, () -> x.ofPress(0, 6));
        ordered(x, 0, 3);
        check.due("8 + 20 + 1", 29, () -> x.ofPress(0, 6));
        ordered(x, 0, 6);
        check.due("and 4 + 20 + 1 behind it", 54, () -> x.ofPress(0, 6));
        check.due("but 8 + 20 + 1 alone", 29, () -> x.expected(1, 0, 4));
        ordered(x, 0, 3);
        check.due("and 4 + 20 + 1 behind that", 79, () -> x.ofPress(0, 6));
        check.due("in the queue", 3, () -> x.ofPress(0, 5));
        check.due("of another press", 0, () -> x.ofPress(1, 6));
        x.buy(0, 1);
        x.slip(0, 28, 0);
        // RUN is (90 + 0) / 4 = 22, SPOIL 37; inks 3 are in it; 29 sheets and 1 + 5.
        check.due("24 + 0 and 24 + 0", 48, () -> x.ofPress(0, 6));
        check.due("inks", 3, () -> x.ofPress(0, 1));
        x.towers(0, 1);
        // Two passes: 4 + 40 + 40 * 22 * 2 / 1000, twice.
        check.due("with one tower", 90, () -> x.ofPress(0, 6));
    }

    private static void ofPressRefuses() {
        PrintLedger x = new PrintLedger();
        check.noPlace(x, "ofPress(3, 0)", () -> x.ofPress(3, 0));
        check.noPlace(x, "ofPress(3, 7)", () -> x.ofPress(3, 7));
        check.wrongValue(x, "ofPress(0, 7)", () -> x.ofPress(0, 7));
        for (int far : FAR) {
            check.noPlace(x, "ofPress(" + far + ", 0)", () -> x.ofPress(far, 0));
            check.wrongValue(x, "ofPress(0, " + far + ")", () -> x.ofPress(0, far));
        }
    }

    private static void queuePlaces() {
        PrintLedger x = new PrintLedger();
        check.noPlace(x, "queue(0, 0) when empty", () -> x.queue(0, 0));
        for (int k = 0; k < 20; k++) {
            x.job(0, 10, 10, 1000, 1);
        }
        for (int k = 19; k >= 0; k--) {
            x.order(k, 1);
        }
        for (int k = 0; k < 20; k++) {
            int place = k;
            check.due("queue(1, " + place + ")", 19 - place, () -> x.queue(1, place));
        }
        check.due("all", 20, () -> x.ofPress(1, 5));
        check.noPlace(x, "queue(1, 20)", () -> x.queue(1, 20));
        check.noPlace(x, "queue(0, 0)", () -> x.queue(0, 0));
        check.noPlace(x, "queue(3, 0)", () -> x.queue(3, 0));
        for (int far : FAR) {
            check.noPlace(x, "queue(" + far + ", 0)", () -> x.queue(far, 0));
            check.noPlace(x, "queue(1, " + far + ")", () -> x.queue(1, far));
        }
        check.noPlace(x, "sort(3)", () -> x.sort(3));
        for (int far : FAR) {
            check.noPlace(x, "sort(" + far + ")", () -> x.sort(far));
        }
    }

    private static void queueIs(PrintLedger x, int press, int... jobs) {
        check.due("length of the queue", jobs.length, () -> x.ofPress(press, 5));
        for (int k = 0; k < jobs.length; k++) {
            int place = k;
            check.due("queue(" + press + ", " + place + ")", jobs[place], () -> x.queue(press, place));
        }
    }

    private static void sortIsLess() {
        PrintLedger x = new PrintLedger();
        check.due("an empty queue", 0, () -> x.sort(0));
        ordered(x, 0, 15);
        ordered(x, 0, 1);
        ordered(x, 0, 3);
        ordered(x, 0, 1);
        ordered(x, 1, 8);
        // CHANGE is 16 + 0 + 4 + 0 before, and 4 + 0 + 4 + 8 behind.
        check.due("sort(0)", 4, () -> x.sort(0));
        queueIs(x, 0, 1, 3, 2, 0);
        queueIs(x, 1, 4);
        check.due("sort(0) once more", 0, () -> x.sort(0));
        queueIs(x, 0, 1, 3, 2, 0);
    }

    private static void sortKeepsTheFirstOfSeveral() {
        PrintLedger x = new PrintLedger();
        ordered(x, 2, 7);
        ordered(x, 2, 8);
        ordered(x, 2, 4);
        ordered(x, 2, 2);
        // From none: 8 (4, the first of three); 4 (4, before 2); 2 (4); 7 (8).
        check.due("sort(2)", (12 + 4 + 4 + 4) - (4 + 4 + 4 + 8), () -> x.sort(2));
        queueIs(x, 2, 1, 2, 3, 0);
    }

    private static void sortCanBeMore() {
        PrintLedger x = new PrintLedger();
        ordered(x, 0, 1);
        ordered(x, 0, 7);
        ordered(x, 0, 2);
        // CHANGE is 4 + 8 + 0 before, and 4 + 4 + 8 behind.
        check.due("sort(0)", -4, () -> x.sort(0));
        queueIs(x, 0, 0, 2, 1);
    }

    private static void sortGoesOnWithTheInksAhead() {
        PrintLedger x = new PrintLedger();
        ordered(x, 0, 1);
        ordered(x, 0, 6);
        ordered(x, 0, 5);
        // CHANGE is 4 + 8 + 4 before; behind 1 it is 4 of 5 and 8 of 6, behind 5 then 4 of 6.
        check.due("sort(0)", 4, () -> x.sort(0));
        queueIs(x, 0, 0, 2, 1);
    }

    private static void sortBeginsWithTheInksOfThePress() {
        PrintLedger x = new PrintLedger();
        ordered(x, 0, 12);
        x.buy(0, 1);
        x.slip(0, 28, 0);
        ordered(x, 0, 1);
        ordered(x, 0, 12);
        // With 12 in it: 4 + 8 before, 0 + 4 behind.
        check.due("sort(0)", 8, () -> x.sort(0));
        queueIs(x, 0, 2, 1);
    }

    private static void pressIs(PrintLedger x, int press, int inks, int ready, int run, int spoil) {
        check.due("inks", inks, () -> x.ofPress(press, 1));
        check.due("ready", ready, () -> x.ofPress(press, 2));
        check.due("run", run, () -> x.ofPress(press, 3));
        check.due("spoil", spoil, () -> x.ofPress(press, 4));
    }

    private static void slipIsTold() {
        PrintLedger x = new PrintLedger();
        ordered(x, 1, 3);
        ordered(x, 1, 4);
        x.buy(0, 1);
        check.due("good", 29, () -> x.slip(1, 50, 6));
        check.due("stock", 215, () -> x.ofPaper(0, 3));
        check.due("made", 1015, () -> x.ofJob(0, 7));
        check.due("money", -1250 - 500 - 400, () -> x.many(5));
        check.due("cost", 900 + 175, () -> x.ofJob(0, 10));
        check.due("state", 2, () -> x.ofJob(0, 6));
        check.due("its press", 1, () -> x.ofJob(0, 12));
        queueIs(x, 1, 1);
        // REST is 50 - 8 - 20 = 22: (90 + 22000 / 35) / 4, and (150 + 6000 / 35) / 4.
        pressIs(x, 1, 3, 20, 179, 80);
        pressIs(x, 0, 0, 20, 30, 50);
        x.terms(99, 0);
        x.paper(0, 20, 20, 7);
        check.due("good", 29, () -> x.slip(1, 1, 0));
        check.due("cost by wage and price as they are now", 99 + 200 + 29 * 7, () -> x.ofJob(1, 10));
        check.due("money", -2150 - 99 - 200, () -> x.many(5));
        // 1 less 4 minutes are none: (60 + 0) / 4; the inks of it and no others.
        pressIs(x, 1, 4, 15, 179, 60);
    }

    private static void slipLearns() {
        int[] minutes = {28, 29, 27, 9, 8, 7, 1};
        int[] ready = {20, 20, 19, 15, 15, 15, 15};
        int[] run = {22, 31, 30, 30, 30, 30, 30};
        for (int k = 0; k < minutes.length; k++) {
            PrintLedger x = new PrintLedger();
            ordered(x, 0, 3);
            x.buy(0, 1);
            x.slip(0, minutes[k], 0);
            // 28 is REST 0; 29 is REST 1, 1000 / 29 = 34; below, A is 19, 1, 0, 0 and 0.
            pressIs(x, 0, 3, ready[k], run[k], 37);
        }
    }

    private static void slipLearnsExactly() {
        PrintLedger x = new PrintLedger();
        x.buy(0, 1);
        x.job(0, 70, 50, 1, 1);
        x.order(0, 0);
        x.slip(0, 27, 0);
        // (90 + 3000 / 1) / 4.
        pressIs(x, 0, 1, 20, 772, 37);
        ordered(x, 1, 1);
        x.slip(1, 12, 0);
        // (60 + 8) / 4, then (51 + 0) / 4, as 3 minutes are less than the CHANGE of 4.
        pressIs(x, 1, 1, 17, 30, 37);
        ordered(x, 1, 2);
        x.slip(1, 3, 0);
        pressIs(x, 1, 2, 12, 30, 27);
    }

    private static void slipLearnsByPasses() {
        PrintLedger x = new PrintLedger();
        x.towers(0, 1);
        ordered(x, 0, 7);
        x.buy(0, 1);
        x.slip(0, 12 + 60 + 9, 1);
        // 30 were taken, in 3 passes: (90 + 9000 / 90) / 4, and (150 + 1000 / 30) / 4.
        pressIs(x, 0, 7, 20, 47, 45);
        ordered(x, 0, 7);
        // No CHANGE: REST is 59 - 60, A is 59 / 3.
        x.slip(0, 59, 0);
        pressIs(x, 0, 7, 19, 47, 33);
        x.towers(0, 2);
        ordered(x, 0, 7);
        // The passes of the towers that there are now: two; 38 is REST 0.
        x.slip(0, 38, 0);
        pressIs(x, 0, 7, 19, 35, 24);
    }

    private static void slipWithFewSheets() {
        PrintLedger x = new PrintLedger();
        x.job(0, 70, 50, 1000, 1);
        x.order(0, 0);
        x.buy(0, 1);
        check.wrongState(x, "stock is spoiled", () -> x.slip(0, 24, 250));
        check.wrongState(x, "more is spoiled", () -> x.slip(0, 24, 251));
        check.due("one is good", 1, () -> x.slip(0, 24, 249));
        check.due("all was taken", 0, () -> x.ofPaper(0, 3));
        check.due("made", 1, () -> x.ofJob(0, 7));
        check.due("cost", 240 + 200 + 1250, () -> x.ofJob(0, 10));
        // (150 + 249000 / 250) / 4; REST is 0.
        pressIs(x, 0, 1, 20, 22, 286);
        check.due("sheets", 999, () -> x.again(0));
        x.buy(0, 4);
        check.due("999 of 1000", 999, () -> x.slip(0, 20, 0));
        check.due("stock", 1, () -> x.ofPaper(0, 3));
    }

    private static void ratesHaveEnds() {
        PrintLedger x = new PrintLedger();
        x.buy(0, 40);
        int[] ready = {15, 11, 8, 6, 4, 3, 2, 1, 1, 1};
        for (int k = 0; k < ready.length; k++) {
            ordered(x, 0, 1 + k % 2);
            x.slip(0, 1, 0);
            int due = ready[k];
            check.due("ready falls", due, () -> x.ofPress(0, 2));
        }
        int[] run = {22, 16, 12, 9, 6, 4, 3, 2, 1, 1};
        for (int k = 0; k < run.length; k++) {
            ordered(x, 1, 1);
            x.slip(1, k == 0 ? 24 : 20, 0);
            int due = run[k];
            check.due("run falls", due, () -> x.ofPress(1, 3));
        }
        PrintLedger y = new PrintLedger();
        y.buy(0, 40);
        y.job(0, 70, 50, 1, 1);
        y.order(0, 0);
        y.slip(0, 9999, 9998);
        // REST is 9975: (90 + 9975000 / 9999) / 4; (150 + 9998000 / 9999) / 4.
        pressIs(y, 0, 1, 20, 271, 287);
        y.buy(0, 40);
        y.job(0, 70, 50, 1, 1);
        y.order(1, 0);
        y.slip(0, 9999, 0);
        check.due("run is 999 at most", 999, () -> y.ofPress(0, 3));
        spoilHasAnEnd();
    }

    /** SPOIL cannot be learnt above 999, as SPOILED is always below TAKEN. */
    private static void spoilHasAnEnd() {
        PrintLedger x = new PrintLedger();
        int[] spoil = {287, 465, 598, 698, 773, 829, 871, 903, 927, 945, 958, 968, 975, 981, 985, 988, 990};
        for (int due : spoil) {
            int job = x.job(0, 70, 50, 1, 1);
            x.order(job, 0);
            x.buy(0, 40);
            x.slip(0, 1, 9999);
            check.due("spoil grows", due, () -> x.ofPress(0, 4));
        }
    }

    private static void secondSlipPaysNoInks() {
        PrintLedger x = new PrintLedger();
        x.job(0, 70, 50, 300, 15);
        x.order(0, 0);
        x.buy(0, 1);
        check.due("good", 250, () -> x.slip(0, 100, 0));
        check.due("cost", 1000 + 800 + 1250, () -> x.ofJob(0, 10));
        check.due("money", -1250 - 1800, () -> x.many(5));
        check.due("sheets", 50, () -> x.again(0));
        x.buy(0, 1);
        check.due("good", 50, () -> x.slip(0, 10, 3));
        check.due("cost", 3050 + 100 + 53 * 5, () -> x.ofJob(0, 10));
        check.due("money", -3050 - 1250 - 100, () -> x.many(5));
        check.due("made", 300, () -> x.ofJob(0, 7));
    }

    private static void slipRefuses() {
        PrintLedger x = new PrintLedger();
        check.wrongState(x, "an empty queue", () -> x.slip(0, 1, 0));
        check.wrongValue(x, "minutes 0, an empty queue", () -> x.slip(0, 0, 0));
        ordered(x, 0, 1);
        check.wrongState(x, "no stock", () -> x.slip(0, 1, 0));
        x.buy(1, 40);
        check.wrongState(x, "no stock of its paper", () -> x.slip(0, 1, 0));
        x.buy(0, 40);
        check.noPlace(x, "slip(3, ..)", () -> x.slip(3, 1, 0));
        check.noPlace(x, "slip(3, 0, -1)", () -> x.slip(3, 0, -1));
        check.wrongValue(x, "minutes 0", () -> x.slip(0, 0, 0));
        check.wrongValue(x, "minutes 10000", () -> x.slip(0, 10000, 0));
        check.wrongValue(x, "spoiled 10000", () -> x.slip(0, 1, 10000));
        for (int far : FAR) {
            check.noPlace(x, "slip(" + far + ", ..)", () -> x.slip(far, 1, 0));
            check.wrongValue(x, "minutes " + far, () -> x.slip(0, far, 0));
            check.wrongValue(x, "spoiled " + far, () -> x.slip(0, 1, far));
        }
        check.due("9999 of both", 1, () -> x.slip(0, 9999, 9999));
    }
}
