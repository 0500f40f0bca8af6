/** Shops in such states as several tests need, and steps on the way there. */
final class Shops {
    private Shops() {
    }

    /** Adds a job of PAPER 0 as it is at first, that LIES once: as many SHEETS as COPIES. */
    static int whole(PrintLedger x, int copies, int inks) {
        return x.job(0, 70, 50, copies, inks);
    }

    static int wholeOrdered(PrintLedger x, int copies, int inks, int press) {
        int job = whole(x, copies, inks);
        x.order(job, press);
        return job;
    }

    static void buyLots(PrintLedger x, int paper, int lots) {
        for (int left = lots; left > 0; left -= 40) {
            x.buy(paper, Math.min(left, 40));
        }
    }

    /** Job 0, LIES once, one INK, on press 0: PRINTED, with just so many MADE of its COPIES. */
    static PrintLedger printed(int made, int copies) {
        PrintLedger x = new PrintLedger();
        wholeOrdered(x, copies, 1, 0);
        int lots = (made + 249) / 250;
        buyLots(x, 0, lots);
        x.slip(0, 24, lots * 250 - made);
        return x;
    }

    /** A new shop with that STOCK of PAPER 0 less one, and job 0 PRINTED with the one sheet. */
    static PrintLedger oneBelow(int lots) {
        PrintLedger x = new PrintLedger();
        wholeOrdered(x, 1, 1, 2);
        buyLots(x, 0, lots);
        x.slip(2, 24, 0);
        return x;
    }

    /** Three jobs, one on each press, in that state. */
    static PrintLedger threeNew() {
        PrintLedger x = new PrintLedger();
        for (int k = 0; k < 3; k++) {
            whole(x, 100, 1 + k);
        }
        return x;
    }

    static PrintLedger threeQueued() {
        PrintLedger x = threeNew();
        for (int k = 0; k < 3; k++) {
            x.order(k, k);
        }
        return x;
    }

    /** 40 lots are left, so that any number of sheets can be SPOILED. */
    static PrintLedger threeQueuedWithStock() {
        PrintLedger x = threeQueued();
        x.buy(0, 40);
        return x;
    }

    /** 96 of 100 are MADE of each: enough for an INVOICE, and some are LACKING. */
    static PrintLedger threePrinted() {
        PrintLedger x = threeQueued();
        for (int k = 0; k < 3; k++) {
            x.buy(0, 1);
            x.slip(k, 50, 250 - 96);
        }
        return x;
    }

    /** All 20 jobs, in the QUEUE of one press, with these INKS in turn. */
    static PrintLedger fullQueue(int press, int... inks) {
        PrintLedger x = new PrintLedger();
        for (int k = 0; k < 20; k++) {
            wholeOrdered(x, 1, inks[k % inks.length], press);
        }
        return x;
    }

    /**
     * All 20 jobs: 0 INVOICED, 1 PRINTED and some LACKING, 2 PRINTED with overs, 3 QUEUED again,
     * 4 to 9 QUEUED, the others NEW; the STOCK of PAPER 1 is at its limit but for 249 sheets.
     */
    static PrintLedger busy() {
        PrintLedger x = new PrintLedger();
        x.towers(1, 1);
        x.paper(2, 64, 45, 3);
        x.terms(12, 30);
        x.job(0, 10, 10, 1000, 5);
        x.job(2, 21, 29, 900, 7);
        x.job(2, 1, 1, 30, 8);
        x.job(3, 70, 50, 300, 15);
        for (int k = 4; k < 20; k++) {
            x.job(k % 4, 10 + k, 30 - k, 50 * k, 1 + k % 15);
        }
        for (int k = 0; k < 10; k++) {
            x.order(k, k % 3);
        }
        buyLots(x, 0, 2);
        buyLots(x, 1, 399);
        buyLots(x, 2, 1);
        buyLots(x, 3, 1);
        x.slip(0, 66, 5);
        x.slip(2, 10, 3);
        x.slip(1, 90, 100);
        x.slip(0, 200, 20);
        x.invoice(0);
        x.again(3);
        return x;
    }
}
