/**
 * The boundary cases of promises 12 to 16, of paragraphs 3 and 4 of 'Terms' and of 'What is
 * learnt', each sentence by itself. Where nothing else is said a JOB is one of whole sheets with
 * one INK: a SLIP of 24 minutes has a REST of 0 on a new PRESS, and 20 if its INK is in it.
 */
public final class PressEdgeTest {
    private static final Check check = new Check();

    public static void main(String[] args) {
        pressesAtFirst();
        towersAtTheirEnds();
        minutesOfAnEmptyQueue();
        minutesOfAFullQueue();
        placesOfAnEmptyQueue();
        placesOfAFullQueue();
        placesBehindASlip();
        sortOfNoneAndOne();
        sortOfAFullQueue();
        sortOfSeveralAlike();
        sortWithMoreMinutes();
        sortWithInksThatAreIn();
        slipAtItsEnds();
        slipOfAnEmptyQueue();
        stockJustMoreThanSpoiled();
        takenNoMoreThanThereAre();
        takenUpToTheStockLimit();
        inksArePaidOnce();
        inksOfTheSlipAndNoOthers();
        restOfNone();
        restBelowNone();
        minutesUpToTheChange();
        runAtItsEnds();
        readyAtItsLeast();
        spoilAtItsEnds();
        ratesByPasses();
        check.end();
    }

    private static void pressIs(PrintLedger x, int press, int... want) {
        for (int k = 0; k < want.length; k++) {
            int what = k;
            check.due("ofPress(" + press + ", " + k + ")", want[k], () -> x.ofPress(press, what));
        }
    }

    /** "TOWERS, 1 to 4 (2 at first), .. INKS that are in it (none), .. READY (20), RUN (30), SPOIL (50)". */
    private static void pressesAtFirst() {
        PrintLedger x = new PrintLedger();
        for (int press = 0; press < 3; press++) {
            pressIs(x, press, 2, 0, 20, 30, 50, 0, 0);
        }
        check.noPlace(x, "press 3", () -> x.ofPress(3, 0));
    }

    /** "Throws IllegalArgumentException if towers is not 1 to 4"; "Returns those before". */
    private static void towersAtTheirEnds() {
        PrintLedger x = new PrintLedger();
        check.due("the least", 2, () -> x.towers(0, 1));
        check.wrongValue(x, "0", () -> x.towers(0, 0));
        check.due("the most", 1, () -> x.towers(0, 4));
        check.wrongValue(x, "5", () -> x.towers(0, 5));
        check.due("the same again", 4, () -> x.towers(0, 4));
        pressIs(x, 0, 4, 0, 20, 30, 50, 0, 0);
        check.due("of the last PRESS", 2, () -> x.towers(2, 1));
        pressIs(x, 1, 2);
        pressIs(x, 2, 1);
    }

    /** "MINUTES that are EXPECTED for all of these": of none, and of none any more. */
    private static void minutesOfAnEmptyQueue() {
        PrintLedger x = new PrintLedger();
        check.due("no JOBS", 0, () -> x.ofPress(0, 6));
        Shops.whole(x, 1, 1);
        check.due("none in a QUEUE", 0, () -> x.ofPress(0, 6));
        x.order(0, 0);
        check.due("one", 24, () -> x.ofPress(0, 6));
        x.buy(0, 1);
        x.slip(0, 24, 0);
        check.due("none any more", 0, () -> x.ofPress(0, 6));
        check.due("none in it", 0, () -> x.ofPress(0, 5));
    }

    /** "the first one with the INKS that are in the PRESS now, each other one with those of the one ahead of it". */
    private static void minutesOfAFullQueue() {
        PrintLedger alike = Shops.fullQueue(0, 1);
        check.due("alike", 4 + 20 * 20, () -> alike.ofPress(0, 6));
        PrintLedger turns = Shops.fullQueue(1, 1, 2);
        check.due("in turns", 20 * 24, () -> turns.ofPress(1, 6));
        PrintLedger more = Shops.fullQueue(2, 1, 3);
        check.due("one more and one less", 4 + 10 * 4 + 20 * 20, () -> more.ofPress(2, 6));
        check.due("20 in it", 20, () -> more.ofPress(2, 5));
        more.buy(0, 1);
        more.slip(2, 24, 0);
        // The one that is first by now has an INK in the PRESS, as it had behind the one ahead.
        check.due("one less", 10 * 4 + 19 * 20, () -> more.ofPress(2, 6));
    }

    /** "Throws IndexOutOfBoundsException if there is no such PRESS, or place". */
    private static void placesOfAnEmptyQueue() {
        PrintLedger x = new PrintLedger();
        for (int k = 0; k < 3; k++) {
            int press = k;
            check.noPlace(x, "an empty QUEUE", () -> x.queue(press, 0));
            check.noPlace(x, "an empty QUEUE", () -> x.queue(press, -1));
        }
        Shops.wholeOrdered(x, 1, 1, 1);
        check.noPlace(x, "another QUEUE", () -> x.queue(0, 0));
        check.due("the only one", 0, () -> x.queue(1, 0));
        check.noPlace(x, "behind it", () -> x.queue(1, 1));
        check.noPlace(x, "ahead of it", () -> x.queue(1, -1));
    }

    private static void placesOfAFullQueue() {
        PrintLedger x = Shops.fullQueue(2, 1);
        check.due("the first", 0, () -> x.queue(2, 0));
        check.due("the last", 19, () -> x.queue(2, 19));
        check.noPlace(x, "behind the last", () -> x.queue(2, 20));
        check.noPlace(x, "ahead of the first", () -> x.queue(2, -1));
        check.noPlace(x, "no such PRESS", () -> x.queue(3, 0));
    }

    /** "It is PRINTED, and leaves the QUEUE": the last place is none any more. */
    private static void placesBehindASlip() {
        PrintLedger x = Shops.fullQueue(2, 1);
        x.buy(0, 1);
        for (int k = 0; k < 20; k++) {
            int job = k;
            check.due("first", job, () -> x.queue(2, 0));
            check.due("last", 19, () -> x.queue(2, 19 - job));
            check.due("one good", 1, () -> x.slip(2, 24, 0));
            check.noPlace(x, "no such place by now", () -> x.queue(2, 19 - job));
        }
        check.wrongState(x, "an empty QUEUE", () -> x.slip(2, 24, 0));
        check.due("all PRINTED", 20, () -> x.many(3));
    }

    private static void sortOfNoneAndOne() {
        PrintLedger x = new PrintLedger();
        check.due("none", 0, () -> x.sort(0));
        Shops.wholeOrdered(x, 1, 15, 0);
        check.due("one", 0, () -> x.sort(0));
        check.due("it stays", 0, () -> x.queue(0, 0));
        check.due("none elsewhere", 0, () -> x.sort(2));
        check.noPlace(x, "no such PRESS", () -> x.sort(3));
    }

    private static void queueIs(PrintLedger x, int press, int... jobs) {
        check.due("in the QUEUE", jobs.length, () -> x.ofPress(press, 5));
        for (int k = 0; k < jobs.length; k++) {
            int place = k;
            check.due("queue(" + press + ", " + k + ")", jobs[k], () -> x.queue(press, place));
        }
    }

    private static void sortOfAFullQueue() {
        PrintLedger x = Shops.fullQueue(0, 1, 2);
        // 20 times 4 minutes of CHANGE before, and twice then.
        check.due("sort", 72, () -> x.sort(0));
        queueIs(x, 0, 0, 2, 4, 6, 8, 10, 12, 14, 16, 18, 1, 3, 5, 7, 9, 11, 13, 15, 17, 19);
        check.due("sort once more", 0, () -> x.sort(0));
        queueIs(x, 0, 0, 2, 4, 6, 8, 10, 12, 14, 16, 18, 1, 3, 5, 7, 9, 11, 13, 15, 17, 19);
        check.due("20 in it", 20, () -> x.ofPress(0, 5));
    }

    /** "of several the one that was first". */
    private static void sortOfSeveralAlike() {
        PrintLedger alike = Shops.fullQueue(1, 6);
        check.due("all alike", 0, () -> alike.sort(1));
        queueIs(alike, 1, 0, 1, 2, 3, 4, 5, 6, 7, 8, 9, 10, 11, 12, 13, 14, 15, 16, 17, 18, 19);
        PrintLedger x = new PrintLedger();
        int[] inks = {3, 12, 1, 2, 8};
        for (int k = 0; k < inks.length; k++) {
            Shops.whole(x, 1, inks[k]);
        }
        // "the one that was first" in the QUEUE, not by number: 4, 3, 2, 1, 0 stand there.
        for (int job = 4; job >= 0; job--) {
            x.order(job, 0);
        }
        // 8 first (4), then of 2, 1 and 12 (4 each) 2, then of 1 and 3 (4 each) 1, then 3 (4), 12 (8).
        // CHANGE is 4 + 4 + 4 + 8 + 8 before, and 4 + 4 + 4 + 4 + 8 then.
        check.due("some alike", 4, () -> x.sort(0));
        queueIs(x, 0, 4, 3, 2, 0, 1);
    }

    /** "Returns how many MINUTES less are EXPECTED then (below 0: more)". */
    private static void sortWithMoreMinutes() {
        PrintLedger x = new PrintLedger();
        Shops.wholeOrdered(x, 1, 1, 0);
        Shops.wholeOrdered(x, 1, 7, 0);
        Shops.wholeOrdered(x, 1, 2, 0);
        int before = x.ofPress(0, 6);
        check.due("sort", -4, () -> x.sort(0));
        queueIs(x, 0, 0, 2, 1);
        check.due("more minutes", before + 4, () -> x.ofPress(0, 6));
    }

    /** "(at first of those in the PRESS)". */
    private static void sortWithInksThatAreIn() {
        PrintLedger x = new PrintLedger();
        Shops.wholeOrdered(x, 1, 14, 0);
        x.buy(0, 1);
        x.slip(0, 1, 0);
        Shops.wholeOrdered(x, 1, 1, 0);
        Shops.wholeOrdered(x, 1, 10, 0);
        Shops.wholeOrdered(x, 1, 4, 0);
        // 14 are in it: 0 for 10 (ahead of 4, which was behind it), then 4 for 1 as well as for 4.
        check.due("sort", (4 + 8 + 4) - (0 + 4 + 4), () -> x.sort(0));
        queueIs(x, 0, 2, 1, 3);
    }

    /** "minutes is not 1 to 9999, or spoiled is not 0 to 9999". */
    private static void slipAtItsEnds() {
        PrintLedger least = Shops.threeQueuedWithStock();
        check.wrongValue(least, "minutes 0", () -> least.slip(0, 0, 0));
        check.wrongValue(least, "spoiled -1", () -> least.slip(0, 1, -1));
        check.due("1 minute, none SPOILED", 100, () -> least.slip(0, 1, 0));
        check.due("all MINUTES", 1, () -> least.many(9));
        check.due("all SPOILED", 0, () -> least.many(10));
        check.due("what it COST", 10 + 200 + 500, () -> least.ofJob(0, 10));
        PrintLedger most = Shops.threeQueuedWithStock();
        check.wrongValue(most, "minutes 10000", () -> most.slip(0, 10000, 9999));
        check.wrongValue(most, "spoiled 10000", () -> most.slip(0, 9999, 10000));
        check.due("9999 minutes, 9999 SPOILED", 1, () -> most.slip(0, 9999, 9999));
        check.due("all MINUTES", 9999, () -> most.many(9));
        check.due("all SPOILED", 9999, () -> most.many(10));
        check.due("what it COST", 99990 + 200 + 50000, () -> most.ofJob(0, 10));
    }

    /** "Throws IllegalStateException if its QUEUE is empty". */
    private static void slipOfAnEmptyQueue() {
        PrintLedger x = new PrintLedger();
        x.buy(0, 1);
        check.wrongState(x, "no JOBS", () -> x.slip(0, 24, 0));
        Shops.whole(x, 1, 1);
        check.wrongState(x, "a NEW one", () -> x.slip(0, 24, 0));
        x.order(0, 1);
        check.wrongState(x, "one on another PRESS", () -> x.slip(0, 24, 0));
        check.due("on its PRESS", 1, () -> x.slip(1, 24, 0));
        check.wrongState(x, "a PRINTED one", () -> x.slip(1, 24, 0));
    }

    /** "or the STOCK is not more than SPOILED". */
    private static void stockJustMoreThanSpoiled() {
        int[] spoiled = {0, 1, 249, 250, 251};
        int[] lots = {0, 0, 1, 1, 1};
        for (int k = 0; k < spoiled.length; k++) {
            int told = spoiled[k];
            PrintLedger x = new PrintLedger();
            Shops.wholeOrdered(x, 1000, 1, 0);
            Shops.buyLots(x, 0, lots[k]);
            x.buy(1, 1);
            if (told == 249) {
                check.due("one good", 1, () -> x.slip(0, 24, told));
                check.due("no STOCK", 0, () -> x.ofPaper(0, 3));
                check.due("MADE", 1, () -> x.ofJob(0, 7));
            } else {
                check.wrongState(x, told + " of " + lots[k] + " lots", () -> x.slip(0, 24, told));
                check.due("QUEUED still", 1, () -> x.ofJob(0, 6));
            }
        }
        PrintLedger one = new PrintLedger();
        Shops.wholeOrdered(one, 249, 1, 0);
        Shops.wholeOrdered(one, 1000, 1, 1);
        one.buy(0, 1);
        one.slip(0, 24, 0);
        check.due("STOCK of one", 1, () -> one.ofPaper(0, 3));
        check.wrongState(one, "1 of 1", () -> one.slip(1, 24, 1));
        check.due("0 of 1", 1, () -> one.slip(1, 24, 0));
        check.due("all of it", 0, () -> one.ofPaper(0, 3));
    }

    /** "TAKEN .. are SHEETS and SPOILED together, but no more than there are". */
    private static void takenNoMoreThanThereAre() {
        int[] spoiled = {0, 49, 50, 51, 249};
        int[] good = {200, 200, 200, 199, 1};
        int[] stock = {50, 1, 0, 0, 0};
        for (int k = 0; k < spoiled.length; k++) {
            int told = spoiled[k];
            PrintLedger x = new PrintLedger();
            x.job(0, 70, 25, 400, 1);
            x.order(0, 0);
            x.buy(0, 1);
            check.due("GOOD with " + told, good[k], () -> x.slip(0, 24, told));
            check.due("STOCK with " + told, stock[k], () -> x.ofPaper(0, 3));
            check.due("MADE with " + told, 2 * good[k], () -> x.ofJob(0, 7));
            int taken = 250 - stock[k];
            check.due("COST with " + told, 240 + 200 + taken * 5, () -> x.ofJob(0, 10));
            check.due("MONEY with " + told, -1250 - 240 - 200, () -> x.many(5));
            check.due("SPOIL with " + told, (150 + told * 1000 / taken) / 4, () -> x.ofPress(0, 4));
        }
    }

    private static void takenUpToTheStockLimit() {
        PrintLedger x = Shops.oneBelow(360);
        x.buy(0, 40);
        Shops.wholeOrdered(x, 9999, 1, 0);
        check.due("GOOD of 99999", 9999, () -> x.slip(0, 9999, 9999));
        check.due("STOCK", 99999 - 19998, () -> x.ofPaper(0, 3));
        check.due("MADE", 9999, () -> x.ofJob(1, 7));
    }

    /** "with the first SLIP of that JOB, 200 for each INK of it". */
    private static void inksArePaidOnce() {
        PrintLedger x = new PrintLedger();
        Shops.wholeOrdered(x, 600, 15, 0);
        int money = 0;
        int cost = 0;
        int[] inks = {800, 0, 0};
        int[] taken = {250, 250, 100};
        for (int k = 0; k < 3; k++) {
            x.buy(0, 1);
            x.slip(0, 50, 0);
            money -= 1250 + 500 + inks[k];
            cost += 500 + inks[k] + taken[k] * 5;
            check.due("MONEY behind slip " + k, money, () -> x.many(5));
            check.due("COST behind slip " + k, cost, () -> x.ofJob(0, 10));
            if (k < 2) {
                check.due("again", 350 - 250 * k, () -> x.again(0));
            }
        }
        // Another JOB pays for its own, though the same INKS are in the PRESS.
        Shops.wholeOrdered(x, 1, 15, 0);
        x.slip(0, 50, 0);
        check.due("COST of another", 500 + 800 + 5, () -> x.ofJob(1, 10));
    }

    private static void dueInks(PrintLedger x, int inks) {
        check.due("INKS in the PRESS", inks, () -> x.ofPress(0, 1));
    }

    /** "the PRESS has its INKS in it then, and no others". */
    private static void inksOfTheSlipAndNoOthers() {
        PrintLedger x = new PrintLedger();
        x.buy(0, 1);
        dueInks(x, 0);
        int[] inks = {15, 1, 6, 6, 8, 15};
        for (int set : inks) {
            Shops.wholeOrdered(x, 1, set, 0);
            x.slip(0, 24, 0);
            dueInks(x, set);
        }
        check.due("none in another PRESS", 0, () -> x.ofPress(1, 1));
    }

    private static PrintLedger slipped(int copies, int inks, int minutes, int spoiled) {
        PrintLedger x = new PrintLedger();
        Shops.wholeOrdered(x, copies, inks, 0);
        Shops.buyLots(x, 0, 40);
        x.slip(0, minutes, spoiled);
        return x;
    }

    /** "if REST is 0 or more, RUN becomes (3 * RUN + REST * 1000 / (TAKEN * PASSES)) / 4". */
    private static void restOfNone() {
        // TOWERS, INKS, READY, RUN: REST is 0, 1, 2, and 0 again with 2 PASSES of 4 INKS.
        pressIs(slipped(100, 1, 24, 0), 0, 2, 1, 20, 22, 37);
        pressIs(slipped(100, 1, 25, 0), 0, 2, 1, 20, 25, 37);
        pressIs(slipped(100, 1, 26, 0), 0, 2, 1, 20, 27, 37);
        pressIs(slipped(100, 15, 56, 0), 0, 2, 15, 20, 22, 37);
        pressIs(slipped(100, 15, 58, 0), 0, 2, 15, 20, 25, 37);
    }

    /** "otherwise READY becomes (3 * READY + A) / 4, with A as MINUTES less CHANGE, .. / PASSES". */
    private static void restBelowNone() {
        // REST is -1: A is 19; then A is 4, 3, 1, 0 and 0 again for less than the CHANGE.
        pressIs(slipped(100, 1, 23, 0), 0, 2, 1, 19, 30, 37);
        pressIs(slipped(100, 1, 8, 0), 0, 2, 1, 16, 30, 37);
        pressIs(slipped(100, 1, 7, 0), 0, 2, 1, 15, 30, 37);
        pressIs(slipped(100, 1, 5, 0), 0, 2, 1, 15, 30, 37);
        pressIs(slipped(100, 1, 4, 0), 0, 2, 1, 15, 30, 37);
        pressIs(slipped(100, 1, 1, 0), 0, 2, 1, 15, 30, 37);
        // 4 INKS in 2 PASSES: 39 / 2, 9 / 2, 7 / 2, and 15 less than the CHANGE.
        pressIs(slipped(100, 15, 55, 0), 0, 2, 15, 19, 30, 37);
        pressIs(slipped(100, 15, 25, 0), 0, 2, 15, 16, 30, 37);
        pressIs(slipped(100, 15, 23, 0), 0, 2, 15, 15, 30, 37);
        pressIs(slipped(100, 15, 1, 0), 0, 2, 15, 15, 30, 37);
    }

    /** "MINUTES less CHANGE, if that is above 0, otherwise 0": READY 17 becomes 51 / 4, and 52 / 4 by one more. */
    private static void minutesUpToTheChange() {
        int[] minutes = {1, 3, 4, 5};
        int[] ready = {12, 12, 12, 13};
        for (int k = 0; k < minutes.length; k++) {
            PrintLedger x = slipped(1, 1, 12, 0);
            check.due("READY at first", 17, () -> x.ofPress(0, 2));
            Shops.wholeOrdered(x, 1, 2, 0);
            x.slip(0, minutes[k], 0);
            check.due("READY behind " + minutes[k], ready[k], () -> x.ofPress(0, 2));
            check.due("RUN stays", 30, () -> x.ofPress(0, 3));
        }
    }

    /** "READY and RUN are 1 at the least, 999 at most". */
    private static void runAtItsEnds() {
        // 256 sheets: REST 999, 1000 and 1001 are 3902, 3906 and 3910, and so 998, 999 and 1000.
        pressIs(slipped(256, 1, 1023, 0), 0, 2, 1, 20, 998, 37);
        pressIs(slipped(256, 1, 1024, 0), 0, 2, 1, 20, 999, 37);
        pressIs(slipped(256, 1, 1025, 0), 0, 2, 1, 20, 999, 37);
        pressIs(slipped(1, 1, 9999, 0), 0, 2, 1, 20, 999, 37);
        PrintLedger x = slipped(1, 1, 9999, 0);
        Shops.wholeOrdered(x, 1, 1, 0);
        x.slip(0, 20, 0);
        check.due("RUN is 999 as it goes on", 749, () -> x.ofPress(0, 3));
        PrintLedger least = slipped(100, 1, 24, 0);
        int[] run = {16, 12, 9, 6, 4, 3, 2, 1, 1, 1};
        for (int due : run) {
            int job = Shops.wholeOrdered(least, 100, 1, 0);
            check.due("job", job, () -> least.queue(0, 0));
            least.slip(0, 20, 0);
            check.due("RUN falls", due, () -> least.ofPress(0, 3));
        }
    }

    private static void readyAtItsLeast() {
        PrintLedger x = slipped(1, 1, 1, 0);
        int[] ready = {11, 8, 6, 4, 3, 2, 1, 1, 1};
        for (int k = 0; k < ready.length; k++) {
            int due = ready[k];
            Shops.wholeOrdered(x, 1, 2 - k % 2, 0);
            x.slip(0, 1, 0);
            check.due("READY falls", due, () -> x.ofPress(0, 2));
        }
        check.due("RUN stays", 30, () -> x.ofPress(0, 3));
        Shops.wholeOrdered(x, 1, 2, 0);
        check.due("READY for a PASS", 1, () -> x.expected(10, 0, 4));
    }

    /** "SPOIL becomes (3 * SPOIL + SPOILED * 1000 / TAKEN) / 4"; "999 at most": 996 is the most that is learnt. */
    private static void spoilAtItsEnds() {
        pressIs(slipped(100, 1, 24, 0), 0, 2, 1, 20, 22, 37);
        // 1000 / 101 is 9, 2000 / 102 is 19, 11000 / 111 is 99.
        pressIs(slipped(100, 1, 24, 1), 0, 2, 1, 20, 22, 39);
        pressIs(slipped(100, 1, 24, 2), 0, 2, 1, 20, 22, 42);
        pressIs(slipped(100, 1, 24, 11), 0, 2, 1, 20, 22, 62);
        pressIs(slipped(1, 1, 24, 9999), 0, 2, 1, 20, 22, 287);
        PrintLedger none = slipped(1, 1, 24, 0);
        int[] spoil = {27, 20, 15, 11, 8, 6, 4, 3, 2, 1, 0, 0, 0};
        for (int due : spoil) {
            Shops.wholeOrdered(none, 1, 1, 0);
            none.slip(0, 24, 0);
            check.due("SPOIL falls", due, () -> none.ofPress(0, 4));
        }
        mostSpoil();
    }

    /** One GOOD sheet of 10000 each time, which is 999 of 1000. */
    private static void mostSpoil() {
        PrintLedger x = slipped(9999, 1, 1, 9999);
        int[] spoil = {465, 598, 698, 773, 829, 871, 903, 927, 945, 958, 968, 975, 981, 985, 988, 990, 992, 993, 994,
            995, 996, 996, 996};
        check.due("SPOIL at first", 287, () -> x.ofPress(0, 4));
        for (int due : spoil) {
            x.again(0);
            x.buy(0, 40);
            check.due("one GOOD", 1, () -> x.slip(0, 1, 9999));
            check.due("SPOIL grows", due, () -> x.ofPress(0, 4));
        }
    }

    /** "TAKEN * PASSES", "READY for each PASS", "/ PASSES": by the TOWERS of now. */
    private static void ratesByPasses() {
        PrintLedger x = new PrintLedger();
        x.towers(0, 1);
        x.buy(0, 4);
        Shops.wholeOrdered(x, 100, 15, 0);
        // 16 + 80 are CHANGE and READY: REST 40 in 4 PASSES of 100 sheets.
        x.slip(0, 136, 0);
        pressIs(x, 0, 1, 15, 20, 47, 37);
        x.towers(0, 4);
        Shops.wholeOrdered(x, 100, 15, 0);
        // No CHANGE, one PASS: REST 20 of 100 sheets.
        x.slip(0, 40, 0);
        pressIs(x, 0, 4, 15, 20, 85, 27);
        x.towers(0, 3);
        Shops.wholeOrdered(x, 100, 15, 0);
        // Two PASSES: A is 39 / 2.
        x.slip(0, 39, 0);
        pressIs(x, 0, 3, 15, 19, 85, 20);
    }
}
