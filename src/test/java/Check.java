/** Counts and prints the calls of a test whose answer is not the one that is due. */
final class Check {
    interface Call {
        long answer();
    }

    private int calls;
    private int wrong;

    void due(String call, long want, Call asked) {
        calls++;
        long got;
        try {
            got = asked.answer();
        } catch (RuntimeException e) {
            report(call + " threw " + e + ", due is " + want);
            return;
        }
        if (got != want) {
            report(call + " answered " + got + ", due is " + want);
        }
    }

    void due(String call, double want, double got) {
        calls++;
        if (got != want) {
            report(call + " answered " + got + ", due is " + want);
        }
    }

    /** The call has to throw exactly that exception, and to leave the shop as it was. */
    void refused(PrintLedger shop, String call, Class<? extends RuntimeException> want, Call asked) {
        calls++;
        long before = shop.digest();
        try {
            long got = asked.answer();
            report(call + " answered " + got + ", due is " + want.getSimpleName());
        } catch (RuntimeException e) {
            if (e.getClass() != want) {
                report(call + " threw " + e + ", due is " + want.getSimpleName());
            }
        }
        if (shop.digest() != before) {
            report(call + " threw, but changed the shop");
        }
    }

    void noPlace(PrintLedger shop, String call, Call asked) {
        refused(shop, call, IndexOutOfBoundsException.class, asked);
    }

    void wrongValue(PrintLedger shop, String call, Call asked) {
        refused(shop, call, IllegalArgumentException.class, asked);
    }

    void wrongState(PrintLedger shop, String call, Call asked) {
        refused(shop, call, IllegalStateException.class, asked);
    }

    void report(String what) {
        wrong++;
        System.out.println(what);
    }

    void end() {
        System.out.println(calls + " checks, " + wrong + " wrong");
        if (wrong > 0) {
            System.exit(1);
        }
    }
}
