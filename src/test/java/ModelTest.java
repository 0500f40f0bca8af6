/** Long runs of calls, chosen by a fixed rule, on the program and on the Model beside it. */
public final class ModelTest {
    private static final int RUNS = 400;
    private static final int CALLS = 512;
    private static final String[] NAMES = {
        "paper", "buy", "buyAll", "ofPaper", "job", "ofJob", "expected", "order", "again", "invoice", "towers",
        "ofPress", "queue", "sort", "slip", "terms", "many", "meanInvoice", "bestPress", "quoteBehind", "profit",
        "job", "job", "order", "order", "slip", "slip", "slip", "buyAll", "again", "invoice", "invoice", "sort",
        "quoteBehind", "quoteBehind", "buy",
    };
    private static final int[] FAR = {-1, Integer.MIN_VALUE, Integer.MAX_VALUE, 100, 10000, 20};

    private final Check check = new Check();
    private long seed = 20261119;

    public static void main(String[] args) {
        ModelTest test = new ModelTest();
        for (int run = 0; run < RUNS; run++) {
            test.run(run);
        }
        test.check.end();
    }

    /** The next number of a fixed row, 0 to below bound. */
    private int next(int bound) {
        seed = seed * 6364136223846793005L + 1442695040888963407L;
        return (int) ((seed >>> 33) % bound);
    }

    private int from(int least, int most) {
        int chosen = next(40);
        if (chosen == 0) {
            return FAR[next(FAR.length)];
        }
        if (chosen == 1) {
            return least - 1;
        }
        if (chosen == 2) {
            return most + 1;
        }
        if (chosen == 3) {
            return least;
        }
        return chosen == 4 ? most : least + next(most - least + 1);
    }

    private int[] argumentsOf(String name, int jobs) {
        int job = from(0, Math.max(0, jobs - 1));
        int press = from(0, 2);
        int paper = from(0, 3);
        switch (name) {
            case "paper": return new int[] {paper, from(20, 99), from(20, 99), from(1, 99)};
            case "buy": return new int[] {paper, from(1, next(2) == 0 ? 40 : 3)};
            case "ofPaper": return new int[] {paper, from(0, 5)};
            case "job": return new int[] {paper, from(1, next(2) == 0 ? 99 : 40), from(1, next(2) == 0 ? 99 : 40),
                from(1, next(2) == 0 ? 9999 : 300), from(1, 15)};
            case "ofJob": return new int[] {job, from(0, 12)};
            case "expected": return new int[] {job, press, from(0, 6)};
            case "order": return new int[] {job, press};
            case "towers": return new int[] {press, from(1, 4)};
            case "ofPress": return new int[] {press, from(0, 6)};
            case "queue": return new int[] {press, from(0, 4)};
            case "slip": return new int[] {press, minutes(), spoiled()};
            case "terms": return new int[] {from(1, 99), from(0, 200)};
            case "many": return new int[] {from(0, 10)};
            case "quoteBehind": return new int[] {press, minutes(), spoiled(), job};
            case "sort": return new int[] {press};
            case "again":
            case "invoice":
            case "bestPress":
            case "profit": return new int[] {job};
            default: return new int[0];
        }
    }

    private int minutes() {
        int chosen = next(4);
        return from(1, chosen == 0 ? 9999 : chosen == 1 ? 1000 : 100);
    }

    private int spoiled() {
        int chosen = next(4);
        return from(0, chosen == 0 ? 9999 : chosen == 1 ? 300 : 20);
    }

    private static double ask(PrintLedger x, String name, int[] a) {
        switch (name) {
            case "paper": return x.paper(a[0], a[1], a[2], a[3]);
            case "buy": return x.buy(a[0], a[1]);
            case "buyAll": return x.buyAll();
            case "ofPaper": return x.ofPaper(a[0], a[1]);
            case "job": return x.job(a[0], a[1], a[2], a[3], a[4]);
            case "ofJob": return x.ofJob(a[0], a[1]);
            case "expected": return x.expected(a[0], a[1], a[2]);
            case "order": return x.order(a[0], a[1]);
            case "again": return x.again(a[0]);
            case "invoice": return x.invoice(a[0]);
            case "towers": return x.towers(a[0], a[1]);
            case "ofPress": return x.ofPress(a[0], a[1]);
            case "queue": return x.queue(a[0], a[1]);
            case "sort": return x.sort(a[0]);
            case "slip": return x.slip(a[0], a[1], a[2]);
            case "terms": return x.terms(a[0], a[1]);
            case "many": return x.many(a[0]);
            case "meanInvoice": return x.meanInvoice();
            case "bestPress": return x.bestPress(a[0]);
            case "quoteBehind": return x.quoteBehind(a[0], a[1], a[2], a[3]);
            default: return x.profit(a[0]);
        }
    }

    private void run(int run) {
        PrintLedger x = new PrintLedger();
        Model model = new Model();
        for (int k = 0; k < CALLS; k++) {
            String name = NAMES[next(NAMES.length)];
            int[] a = argumentsOf(name, (int) model.call("many", 0));
            String call = "run " + run + ", call " + k + ": " + name + java.util.Arrays.toString(a);
            String due = outcome(() -> model.call(name, a));
            String got = outcome(() -> ask(x, name, a));
            if (!got.equals(due)) {
                check.report(call + " answered " + got + ", due is " + due);
                return;
            }
            if (k % 16 == 15 || got.startsWith("throws") && k % 4 == 0) {
                check.due(call + ", then digest()", model.digest(), x::digest);
            }
        }
    }

    private interface Answer {
        double of();
    }

    private static String outcome(Answer answer) {
        try {
            return Double.toString(answer.of());
        } catch (RuntimeException e) {
            return "throws " + e.getClass().getSimpleName();
        }
    }
}
