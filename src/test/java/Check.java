import java.util.function.Supplier;

/** Counts and prints the calls of a test whose answer is not the one that is due. */
final class Check {
    interface Call {
        long answer();
    }

    interface CallWith {
        long answer(PrintLedger shop, int value);
    }

    private int calls;
    private int wrong;

    void due(String call, long want, Call asked) {
        calls++;
        long got;
        try {
            got = asked.answer();
        } catch (RuntimeException e) {
            report(call + " threw " + e + ", due is " + want);
            return;
        }
        if (got != want) {
            report(call + " answered " + got + ", due is " + want);
        }
    }

    void due(String call, double want, double got) {
        calls++;
        if (got != want) {
            report(call + " answered " + got + ", due is " + want);
        }
    }

    void same(String call, Object want, Object got) {
        calls++;
        if (!want.equals(got)) {
            report(call + " answered " + got + ", due is " + want);
        }
    }

    /** The call has to throw exactly that exception, and to leave the shop as it was. */
    void refused(PrintLedger shop, String call, Class<? extends RuntimeException> want, Call asked) {
        calls++;
        long before = shop.digest();
        try {
            long got = asked.answer();
            report(call + " answered " + got + ", due is " + want.getSimpleName());
        } catch (RuntimeException e) {
            if (e.getClass() != want) {
                report(call + " threw " + e + ", due is " + want.getSimpleName());
            }
        }
        if (shop.digest() != before) {
            report(call + " threw, but changed the shop");
        }
    }

    void noPlace(PrintLedger shop, String call, Call asked) {
        refused(shop, call, IndexOutOfBoundsException.class, asked);
    }

    void wrongValue(PrintLedger shop, String call, Call asked) {
        refused(shop, call, IllegalArgumentException.class, asked);
    }

    void wrongState(PrintLedger shop, String call, Call asked) {
        refused(shop, call, IllegalStateException.class, asked);
    }

    /** Numbers of something there is: inside they are answered, outside there is no such thing. */
    void places(String call, int least, int most, Supplier<PrintLedger> shops, CallWith asked) {
        range(call, IndexOutOfBoundsException.class, least, most, shops, asked);
    }

    /** Values of a range: inside they are answered, outside they are wrong. */
    void values(String call, int least, int most, Supplier<PrintLedger> shops, CallWith asked) {
        range(call, IllegalArgumentException.class, least, most, shops, asked);
    }

    private void range(String call, Class<? extends RuntimeException> want, int least, int most,
            Supplier<PrintLedger> shops, CallWith asked) {
        for (int value = least; value <= most; value++) {
            answered(call + " with " + value, shops.get(), value, asked);
        }
        int[] outside = {least - 1, most + 1, -1, Integer.MIN_VALUE, Integer.MAX_VALUE};
        for (int value : outside) {
            PrintLedger shop = shops.get();
            refused(shop, call + " with " + value, want, () -> asked.answer(shop, value));
        }
    }

    private void answered(String call, PrintLedger shop, int value, CallWith asked) {
        calls++;
        try {
            asked.answer(shop, value);
        } catch (RuntimeException e) {
            report(call + " threw " + e + ", due is an answer");
        }
    }

    void report(String what) {
        wrong++;
        System.out.println(what);
    }

    void end() {
        System.out.println(calls + " checks, " + wrong + " wrong");
        if (wrong > 0) {
            System.exit(1);
        }
    }
}
