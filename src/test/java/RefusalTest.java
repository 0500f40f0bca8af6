import java.util.ArrayList;
import java.util.List;
import java.util.function.Supplier;

/**
 * "A method that throws an exception changes nothing. If several exceptions apply, the one that is
 * named first is thrown." Two shops are made alike; one of them has to refuse a call, and then both
 * answer a long row of further calls alike. The same for calls that only ask.
 */
public final class RefusalTest {
    private static final Check check = new Check();
    private static final Class<? extends RuntimeException> NO_PLACE = IndexOutOfBoundsException.class;
    private static final Class<? extends RuntimeException> VALUE = IllegalArgumentException.class;
    private static final Class<? extends RuntimeException> STATE = IllegalStateException.class;

    private interface ShopCall {
        double answer(PrintLedger x);
    }

    public static void main(String[] args) {
        oneException();
        refusedForTheState();
        placeAheadOfValue();
        placeAheadOfState();
        valueAheadOfState();
        placeAheadOfBoth();
        askingChangesNothing();
        check.end();
    }

    /** The call is refused with that exception, and the shop goes on like one that was not asked. */
    private static void refuses(String call, Class<? extends RuntimeException> want, Supplier<PrintLedger> shops,
            ShopCall asked) {
        PrintLedger x = shops.get();
        check.same(call, "throws " + want.getSimpleName(), outcome(x, asked));
        check.same("behind the refused " + call, afterwards(shops.get()), afterwards(x));
    }

    private static String outcome(PrintLedger x, ShopCall asked) {
        try {
            return Double.toString(asked.answer(x));
        } catch (RuntimeException e) {
            return "throws " + e.getClass().getSimpleName();
        }
    }

    /** Some 300 calls that use every part of a shop, with what they answer. */
    private static List<String> afterwards(PrintLedger x) {
        List<String> answers = new ArrayList<>();
        ShopCall[] once = {
            PrintLedger::digest, y -> y.terms(11, 26), y -> y.quoteBehind(1, 40, 2, 1), y -> y.job(0, 7, 9, 77, 6),
            y -> y.paper(0, 66, 44, 4), y -> y.buy(0, 1), y -> y.buy(1, 1), PrintLedger::meanInvoice,
            y -> y.towers(2, 3), y -> y.towers(0, 1),
        };
        for (ShopCall call : once) {
            answers.add(outcome(x, call));
        }
        for (int k = 0; k < 20; k++) {
            int job = k;
            answers.add(outcome(x, y -> y.order(job, job % 3)));
            answers.add(outcome(x, y -> y.ofJob(job, 9)));
            answers.add(outcome(x, y -> y.profit(job)));
        }
        printAll(x, answers);
        for (int k = 0; k < 20; k++) {
            int job = k;
            answers.add(outcome(x, y -> y.again(job)));
            answers.add(outcome(x, y -> y.invoice(job)));
        }
        printAll(x, answers);
        answers.add(outcome(x, PrintLedger::meanInvoice));
        return answers;
    }

    private static void printAll(PrintLedger x, List<String> answers) {
        for (int k = 0; k < 3; k++) {
            int press = k;
            answers.add(outcome(x, y -> y.sort(press)));
            answers.add(outcome(x, PrintLedger::buyAll));
            for (int n = 1; n <= 10; n++) {
                int minutes = 13 * n;
                answers.add(outcome(x, y -> y.slip(press, minutes, minutes % 7)));
                answers.add(Long.toString(x.digest()));
            }
        }
    }

    /** Each exception by itself, in a shop where the call would be answered otherwise. */
    private static void oneException() {
        for (Supplier<PrintLedger> shops : List.<Supplier<PrintLedger>>of(Shops::busy, Shops::threeQueuedWithStock)) {
            refuses("paper(4, ..)", NO_PLACE, shops, x -> x.paper(4, 50, 50, 6));
            refuses("paper(.., 19, ..)", VALUE, shops, x -> x.paper(0, 19, 50, 6));
            refuses("paper(.., 100, ..)", VALUE, shops, x -> x.paper(0, 50, 100, 6));
            refuses("paper(.., 0)", VALUE, shops, x -> x.paper(0, 50, 50, 0));
            refuses("buy(-1, 1)", NO_PLACE, shops, x -> x.buy(-1, 1));
            refuses("buy(0, 41)", VALUE, shops, x -> x.buy(0, 41));
            refuses("ofPaper(4, 0)", NO_PLACE, shops, x -> x.ofPaper(4, 0));
            refuses("ofPaper(0, 6)", VALUE, shops, x -> x.ofPaper(0, 6));
            refuses("job(4, ..)", NO_PLACE, shops, x -> x.job(4, 10, 10, 10, 1));
            refuses("job(.., 51, 51, ..)", VALUE, shops, x -> x.job(0, 51, 51, 10, 1));
            refuses("job(.., 0, 1)", VALUE, shops, x -> x.job(0, 10, 10, 0, 1));
            refuses("job(.., 16)", VALUE, shops, x -> x.job(0, 10, 10, 10, 16));
            refuses("ofJob(20, 0)", NO_PLACE, shops, x -> x.ofJob(20, 0));
            refuses("ofJob(0, 13)", VALUE, shops, x -> x.ofJob(0, 13));
            refuses("expected(20, 0, 0)", NO_PLACE, shops, x -> x.expected(20, 0, 0));
            refuses("expected(0, 3, 0)", NO_PLACE, shops, x -> x.expected(0, 3, 0));
            refuses("expected(0, 0, 7)", VALUE, shops, x -> x.expected(0, 0, 7));
            refuses("order(20, 0)", NO_PLACE, shops, x -> x.order(20, 0));
            refuses("again(20)", NO_PLACE, shops, x -> x.again(20));
            refuses("invoice(-1)", NO_PLACE, shops, x -> x.invoice(-1));
            refuses("towers(3, 1)", NO_PLACE, shops, x -> x.towers(3, 1));
            refuses("towers(0, 5)", VALUE, shops, x -> x.towers(0, 5));
            refuses("ofPress(3, 0)", NO_PLACE, shops, x -> x.ofPress(3, 0));
            refuses("ofPress(0, 7)", VALUE, shops, x -> x.ofPress(0, 7));
            refuses("queue(-1, 0)", NO_PLACE, shops, x -> x.queue(-1, 0));
            refuses("queue(1, 20)", NO_PLACE, shops, x -> x.queue(1, 20));
            refuses("sort(3)", NO_PLACE, shops, x -> x.sort(3));
            refuses("slip(3, 20, 0)", NO_PLACE, shops, x -> x.slip(3, 20, 0));
            refuses("slip(1, 10000, 0)", VALUE, shops, x -> x.slip(1, 10000, 0));
            refuses("slip(1, 20, -1)", VALUE, shops, x -> x.slip(1, 20, -1));
            refuses("terms(100, 0)", VALUE, shops, x -> x.terms(100, 0));
            refuses("terms(1, 201)", VALUE, shops, x -> x.terms(1, 201));
            refuses("many(11)", VALUE, shops, x -> x.many(11));
            refuses("bestPress(20)", NO_PLACE, shops, x -> x.bestPress(20));
            refuses("quoteBehind(3, 20, 0, 0)", NO_PLACE, shops, x -> x.quoteBehind(3, 20, 0, 0));
            refuses("quoteBehind(1, 20, 0, 20)", NO_PLACE, shops, x -> x.quoteBehind(1, 20, 0, 20));
            refuses("quoteBehind(1, 0, 0, 0)", VALUE, shops, x -> x.quoteBehind(1, 0, 0, 0));
            refuses("quoteBehind(1, 20, 10000, 0)", VALUE, shops, x -> x.quoteBehind(1, 20, 10000, 0));
            refuses("profit(20)", NO_PLACE, shops, x -> x.profit(20));
        }
    }

    private static PrintLedger allInvoiced() {
        PrintLedger x = Shops.threePrinted();
        for (int job = 0; job < 3; job++) {
            x.invoice(job);
        }
        return x;
    }

    private static PrintLedger printedWithOvers() {
        PrintLedger x = new PrintLedger();
        x.job(0, 1, 1, 10, 1);
        x.order(0, 0);
        x.buy(0, 1);
        x.slip(0, 24, 0);
        return x;
    }

    private static void refusedForTheState() {
        refuses("buy(1, 1) at the limit of the STOCK", VALUE, Shops::busy, x -> x.buy(1, 1));
        refuses("buy(1, 40) at the limit of the STOCK", VALUE, Shops::busy, x -> x.buy(1, 40));
        refuses("the 21st JOB", STATE, Shops::busy, x -> x.job(0, 10, 10, 10, 1));
        refuses("order(0, 1) of an INVOICED JOB", STATE, Shops::busy, x -> x.order(0, 1));
        refuses("order(1, 1) of a PRINTED JOB", STATE, Shops::busy, x -> x.order(1, 1));
        refuses("order(3, 1) of a JOB QUEUED again", STATE, Shops::busy, x -> x.order(3, 1));
        refuses("order(0, 1) of a QUEUED JOB", STATE, Shops::threeQueued, x -> x.order(0, 1));
        refuses("again(19) of a NEW JOB", STATE, Shops::busy, x -> x.again(19));
        refuses("again(3) of a QUEUED JOB", STATE, Shops::busy, x -> x.again(3));
        refuses("again(2) of a PRINTED JOB with overs", STATE, Shops::busy, x -> x.again(2));
        refuses("again(0) with nothing LACKING", STATE, () -> Shops.printed(100, 100), x -> x.again(0));
        refuses("again(0) of an INVOICED JOB", STATE, RefusalTest::allInvoiced, x -> x.again(0));
        refuses("invoice(19) of a NEW JOB", STATE, Shops::busy, x -> x.invoice(19));
        refuses("invoice(3) of a QUEUED JOB", STATE, Shops::busy, x -> x.invoice(3));
        refuses("invoice(1) with too few pieces", STATE, Shops::busy, x -> x.invoice(1));
        refuses("invoice(0) of an INVOICED JOB", STATE, Shops::busy, x -> x.invoice(0));
        refuses("slip(0, 1, 0) with an empty QUEUE", STATE, Shops::threePrinted, x -> x.slip(0, 1, 0));
        refuses("slip(0, 1, 0) with no STOCK", STATE, Shops::threeQueued, x -> x.slip(0, 1, 0));
        refuses("slip(0, 1, 9999) with less STOCK", STATE, Shops::busy, x -> x.slip(0, 1, 9999));
        refuses("quoteBehind(0, 1, 0, 0) with an empty QUEUE", STATE, Shops::threePrinted,
                x -> x.quoteBehind(0, 1, 0, 0));
        refuses("quoteBehind(0, 1, 0, 1) with no STOCK", STATE, Shops::threeQueued, x -> x.quoteBehind(0, 1, 0, 1));
        refuses("quoteBehind(0, 1, 9999, 1) with less STOCK", STATE, Shops::busy, x -> x.quoteBehind(0, 1, 9999, 1));
    }

    /** IndexOutOfBoundsException is named ahead of IllegalArgumentException. */
    private static void placeAheadOfValue() {
        Supplier<PrintLedger> shops = Shops::threeQueuedWithStock;
        refuses("paper(4, 0, 0, 0)", NO_PLACE, shops, x -> x.paper(4, 0, 0, 0));
        refuses("paper(-1, 50, 50, 100)", NO_PLACE, shops, x -> x.paper(-1, 50, 50, 100));
        refuses("buy(4, 0)", NO_PLACE, shops, x -> x.buy(4, 0));
        refuses("buy(-1, 41)", NO_PLACE, shops, x -> x.buy(-1, 41));
        refuses("ofPaper(4, 6)", NO_PLACE, shops, x -> x.ofPaper(4, 6));
        refuses("ofPaper(-1, -1)", NO_PLACE, shops, x -> x.ofPaper(-1, -1));
        refuses("job(4, 0, 0, 0, 0)", NO_PLACE, shops, x -> x.job(4, 0, 0, 0, 0));
        refuses("job(-1, 51, 51, 1, 1)", NO_PLACE, shops, x -> x.job(-1, 51, 51, 1, 1));
        refuses("ofJob(3, 13)", NO_PLACE, shops, x -> x.ofJob(3, 13));
        refuses("ofJob(-1, -1)", NO_PLACE, shops, x -> x.ofJob(-1, -1));
        refuses("expected(3, 0, 7)", NO_PLACE, shops, x -> x.expected(3, 0, 7));
        refuses("expected(0, 3, 7)", NO_PLACE, shops, x -> x.expected(0, 3, 7));
        refuses("expected(-1, -1, -1)", NO_PLACE, shops, x -> x.expected(-1, -1, -1));
        refuses("towers(3, 5)", NO_PLACE, shops, x -> x.towers(3, 5));
        refuses("towers(-1, 0)", NO_PLACE, shops, x -> x.towers(-1, 0));
        refuses("ofPress(3, 7)", NO_PLACE, shops, x -> x.ofPress(3, 7));
        refuses("ofPress(-1, -1)", NO_PLACE, shops, x -> x.ofPress(-1, -1));
        refuses("slip(3, 0, 0)", NO_PLACE, shops, x -> x.slip(3, 0, 0));
        refuses("slip(-1, 1, 10000)", NO_PLACE, shops, x -> x.slip(-1, 1, 10000));
        refuses("quoteBehind(3, 0, 0, 0)", NO_PLACE, shops, x -> x.quoteBehind(3, 0, 0, 0));
        refuses("quoteBehind(0, 10000, 0, 3)", NO_PLACE, shops, x -> x.quoteBehind(0, 10000, 0, 3));
        refuses("quoteBehind(0, 1, 10000, -1)", NO_PLACE, shops, x -> x.quoteBehind(0, 1, 10000, -1));
    }

    /** IndexOutOfBoundsException is named ahead of IllegalStateException. */
    private static void placeAheadOfState() {
        refuses("job(4, ..), the 21st", NO_PLACE, Shops::busy, x -> x.job(4, 10, 10, 10, 1));
        refuses("order(0, 3) of a QUEUED JOB", NO_PLACE, Shops::threeQueued, x -> x.order(0, 3));
        refuses("order(0, -1) of an INVOICED JOB", NO_PLACE, Shops::busy, x -> x.order(0, -1));
        refuses("quoteBehind(0, 1, 0, 0) with no JOB, the QUEUE empty", NO_PLACE, PrintLedger::new,
                x -> x.quoteBehind(0, 1, 0, 0));
        refuses("quoteBehind(0, 1, 0, 3) with no STOCK", NO_PLACE, Shops::threeQueued,
                x -> x.quoteBehind(0, 1, 0, 3));
    }

    /** IllegalArgumentException is named ahead of IllegalStateException. */
    private static void valueAheadOfState() {
        refuses("job(.., 0, ..), the 21st", VALUE, Shops::busy, x -> x.job(0, 0, 10, 10, 1));
        refuses("job(.., 100, ..), the 21st", VALUE, Shops::busy, x -> x.job(0, 10, 100, 10, 1));
        refuses("job(.., 10000, 1), the 21st", VALUE, Shops::busy, x -> x.job(0, 10, 10, 10000, 1));
        refuses("job(.., 0), the 21st", VALUE, Shops::busy, x -> x.job(0, 10, 10, 10, 0));
        refuses("job(.., 51, 51, ..), the 21st", VALUE, Shops::busy, x -> x.job(0, 51, 51, 10, 1));
        refuses("slip(0, 0, 0) with an empty QUEUE", VALUE, Shops::threePrinted, x -> x.slip(0, 0, 0));
        refuses("slip(0, 1, 10000) with an empty QUEUE", VALUE, Shops::threePrinted, x -> x.slip(0, 1, 10000));
        refuses("slip(0, 10000, 0) with no STOCK", VALUE, Shops::threeQueued, x -> x.slip(0, 10000, 0));
        refuses("slip(0, 1, 10000) with less STOCK", VALUE, Shops::busy, x -> x.slip(0, 1, 10000));
        refuses("slip(0, 1, -1) with no STOCK", VALUE, Shops::threeQueued, x -> x.slip(0, 1, -1));
        refuses("quoteBehind(0, 0, 0, 0) with an empty QUEUE", VALUE, Shops::threePrinted,
                x -> x.quoteBehind(0, 0, 0, 0));
        refuses("quoteBehind(0, 1, 10000, 0) with no STOCK", VALUE, Shops::threeQueued,
                x -> x.quoteBehind(0, 1, 10000, 0));
    }

    private static void placeAheadOfBoth() {
        refuses("job(4, 0, 0, 0, 0), the 21st", NO_PLACE, Shops::busy, x -> x.job(4, 0, 0, 0, 0));
        refuses("quoteBehind(0, 0, 0, 3) with an empty QUEUE", NO_PLACE, Shops::threePrinted,
                x -> x.quoteBehind(0, 0, 0, 3));
        refuses("quoteBehind(3, 0, -1, 0) with empty QUEUES", NO_PLACE, Shops::threePrinted,
                x -> x.quoteBehind(3, 0, -1, 0));
    }

    /** What only asks, and "what would be (nothing is changed)". */
    private static void askingChangesNothing() {
        List<Supplier<PrintLedger>> all = List.of(Shops::busy, Shops::threeQueuedWithStock, Shops::threePrinted,
                RefusalTest::printedWithOvers);
        for (Supplier<PrintLedger> shops : all) {
            PrintLedger x = shops.get();
            long before = x.digest();
            askAll(x);
            check.due("digest() once more", before, x::digest);
            check.same("behind all that only asks", afterwards(shops.get()), afterwards(x));
        }
    }

    private static void askAll(PrintLedger x) {
        for (int k = 0; k < 4; k++) {
            int paper = k;
            outcome(x, y -> y.ofPaper(paper, 5));
            outcome(x, y -> y.ofPress(paper, 6));
            outcome(x, y -> y.queue(paper, 0));
            outcome(x, y -> y.many(5 + paper));
        }
        for (int k = 0; k < 5; k++) {
            int job = k;
            outcome(x, y -> y.ofJob(job, 8));
            outcome(x, y -> y.expected(job, 2, 6));
            outcome(x, y -> y.bestPress(job));
            outcome(x, y -> y.profit(job));
            for (int press = 0; press < 3; press++) {
                int on = press;
                outcome(x, y -> y.quoteBehind(on, 9999, 0, job));
                outcome(x, y -> y.quoteBehind(on, 1, 30, job));
            }
        }
        outcome(x, PrintLedger::meanInvoice);
    }
}
