/**
 * Every number that a call is given, promise by promise: the whole of its range is answered, and
 * what is just outside of it (and far outside) is refused, with nothing changed.
 */
public final class RangeTest {
    private static final Check check = new Check();

    public static void main(String[] args) {
        ofPaperCalls();
        ofAJob();
        ofJobCalls();
        ofPressCalls();
        ofASlip();
        ofTheLedger();
        ofWhatWouldBe();
        check.end();
    }

    /** "PAPERS are 0 to 3, each WIDE and HIGH, 20 to 99, with a PRICE of a sheet, 1 to 99"; "lots is not 1 to 40". */
    private static void ofPaperCalls() {
        check.places("paper: paper", 0, 3, PrintLedger::new, (x, v) -> x.paper(v, 50, 50, 6));
        check.values("paper: wide", 20, 99, PrintLedger::new, (x, v) -> x.paper(0, v, 50, 6));
        check.values("paper: high", 20, 99, PrintLedger::new, (x, v) -> x.paper(0, 50, v, 6));
        check.values("paper: price", 1, 99, PrintLedger::new, (x, v) -> x.paper(0, 50, 50, v));
        check.places("buy: paper", 0, 3, PrintLedger::new, (x, v) -> x.buy(v, 1));
        check.values("buy: lots", 1, 40, PrintLedger::new, (x, v) -> x.buy(3, v));
        check.places("ofPaper: paper", 0, 3, PrintLedger::new, (x, v) -> x.ofPaper(v, 0));
        check.values("ofPaper: what", 0, 5, PrintLedger::new, (x, v) -> x.ofPaper(0, v));
    }

    private static PrintLedger greatSheets() {
        PrintLedger x = new PrintLedger();
        x.paper(0, 99, 99, 5);
        return x;
    }

    /** "WIDE and HIGH, 1 to 99, COPIES, 1 to 9999, and a set of INKS (0 to 3), at least one". */
    private static void ofAJob() {
        check.places("job: paper", 0, 3, PrintLedger::new, (x, v) -> x.job(v, 10, 10, 10, 1));
        check.values("job: wide", 1, 99, RangeTest::greatSheets, (x, v) -> x.job(0, v, 10, 10, 1));
        check.values("job: high", 1, 99, RangeTest::greatSheets, (x, v) -> x.job(0, 10, v, 10, 1));
        check.values("job: copies", 1, 9999, PrintLedger::new, (x, v) -> x.job(0, 10, 10, v, 1));
        check.values("job: inks", 1, 15, PrintLedger::new, (x, v) -> x.job(0, 10, 10, 10, v));
    }

    /** "Throws IndexOutOfBoundsException if there is no such JOB, or PRESS"; what: 0 to 12, 0 to 6. */
    private static void ofJobCalls() {
        check.places("ofJob: job", 0, 2, Shops::threeNew, (x, v) -> x.ofJob(v, 0));
        check.places("ofJob: job of 20", 0, 19, Shops::busy, (x, v) -> x.ofJob(v, 0));
        check.values("ofJob: what", 0, 12, Shops::threeNew, (x, v) -> x.ofJob(0, v));
        check.places("expected: job", 0, 2, Shops::threeNew, (x, v) -> x.expected(v, 0, 0));
        check.places("expected: press", 0, 2, Shops::threeNew, (x, v) -> x.expected(0, v, 0));
        check.values("expected: what", 0, 6, Shops::threeNew, (x, v) -> x.expected(0, 0, v));
        check.places("order: job", 0, 2, Shops::threeNew, (x, v) -> x.order(v, 0));
        check.places("order: press", 0, 2, Shops::threeNew, (x, v) -> x.order(0, v));
        check.places("again: job", 0, 2, Shops::threePrinted, (x, v) -> x.again(v));
        check.places("invoice: job", 0, 2, Shops::threePrinted, (x, v) -> x.invoice(v));
    }

    /** "PRESSES are 0 to 2, each with TOWERS, 1 to 4"; what: 0 to 6; a place in the QUEUE. */
    private static void ofPressCalls() {
        check.places("towers: press", 0, 2, PrintLedger::new, (x, v) -> x.towers(v, 1));
        check.values("towers: towers", 1, 4, PrintLedger::new, (x, v) -> x.towers(0, v));
        check.places("ofPress: press", 0, 2, PrintLedger::new, (x, v) -> x.ofPress(v, 0));
        check.values("ofPress: what", 0, 6, PrintLedger::new, (x, v) -> x.ofPress(0, v));
        check.places("queue: press", 0, 2, Shops::threeQueued, (x, v) -> x.queue(v, 0));
        check.places("queue: place of 1", 0, 0, Shops::threeQueued, (x, v) -> x.queue(2, v));
        check.places("queue: place of 20", 0, 19, () -> Shops.fullQueue(2, 1), (x, v) -> x.queue(2, v));
        check.places("sort: press", 0, 2, PrintLedger::new, (x, v) -> x.sort(v));
    }

    /** "minutes is not 1 to 9999, or spoiled is not 0 to 9999". */
    private static void ofASlip() {
        check.places("slip: press", 0, 2, Shops::threeQueuedWithStock, (x, v) -> x.slip(v, 1, 0));
        check.values("slip: minutes", 1, 9999, Shops::threeQueuedWithStock, (x, v) -> x.slip(0, v, 0));
        check.values("slip: spoiled", 0, 9999, Shops::threeQueuedWithStock, (x, v) -> x.slip(0, 1, v));
    }

    /** "wage is not 1 to 99, or margin is not 0 to 200"; what: 0 to 10. */
    private static void ofTheLedger() {
        check.values("terms: wage", 1, 99, PrintLedger::new, (x, v) -> x.terms(v, 0));
        check.values("terms: margin", 0, 200, PrintLedger::new, (x, v) -> x.terms(1, v));
        check.values("many: what", 0, 10, PrintLedger::new, (x, v) -> x.many(v));
    }

    /** "if there is no such JOB, or PRESS"; "as with slip()". */
    private static void ofWhatWouldBe() {
        check.places("bestPress: job", 0, 2, Shops::threeNew, (x, v) -> x.bestPress(v));
        check.places("profit: job", 0, 2, Shops::threeNew, (x, v) -> x.profit(v));
        check.places("quoteBehind: press", 0, 2, Shops::threeQueuedWithStock, (x, v) -> x.quoteBehind(v, 1, 0, 0));
        check.places("quoteBehind: job", 0, 2, Shops::threeQueuedWithStock, (x, v) -> x.quoteBehind(0, 1, 0, v));
        check.values("quoteBehind: minutes", 1, 9999, Shops::threeQueuedWithStock,
                (x, v) -> x.quoteBehind(0, v, 0, 1));
        check.values("quoteBehind: spoiled", 0, 9999, Shops::threeQueuedWithStock,
                (x, v) -> x.quoteBehind(0, 1, v, 1));
    }
}
