/**
 * Long runs of calls, chosen by a fixed rule, on the program and on the Model beside it. A run has
 * one of four kinds: any calls, long QUEUES, little STOCK (so that much is printed again), or
 * pieces that LIE often (so that there are overs).
 */
public final class ModelTest {
    private static final int RUNS = 400;
    private static final int CALLS = 512;
    private static final String[] NAMES = {
        "paper", "buy", "buyAll", "ofPaper", "job", "ofJob", "expected", "order", "again", "invoice", "towers",
        "ofPress", "queue", "sort", "slip", "terms", "many", "meanInvoice", "bestPress", "quoteBehind", "profit",
        "job", "job", "order", "order", "slip", "slip", "slip", "buyAll", "again", "invoice", "invoice", "sort",
        "quoteBehind", "quoteBehind", "buy",
    };
    private static final int[] FAR = {-1, Integer.MIN_VALUE, Integer.MAX_VALUE, 100, 10000, 20};

    private static final int LONG_QUEUES = 1;
    private static final int LITTLE_STOCK = 2;
    private static final int SMALL_PIECES = 3;

    private final Check check = new Check();
    private long seed = 20261119;
    private int kind;

    public static void main(String[] args) {
        ModelTest test = new ModelTest();
        for (int run = 0; run < RUNS; run++) {
            test.run(run);
        }
        test.check.end();
    }

    /** The next number of a fixed row, 0 to below bound. */
    private int next(int bound) {
        seed = seed * 6364136223846793005L + 1442695040888963407L;
        return (int) ((seed >>> 33) % bound);
    }

    private int from(int least, int most) {
        int chosen = next(40);
        if (chosen == 0) {
            return FAR[next(FAR.length)];
        }
        if (chosen == 1) {
            return least - 1;
        }
        if (chosen == 2) {
            return most + 1;
        }
        if (chosen == 3) {
            return least;
        }
        return chosen == 4 ? most : least + next(most - least + 1);
    }

    private int[] argumentsOf(String name, Model model) {
        int job = jobFor(name, model);
        int press = kind == LONG_QUEUES && next(8) > 0 ? 1 : from(0, 2);
        int paper = kind == LITTLE_STOCK && next(8) > 0 ? 1 : from(0, 3);
        switch (name) {
            case "paper": return new int[] {paper, from(20, 99), from(20, 99), from(1, 99)};
            case "buy": return new int[] {paper, from(1, kind != LITTLE_STOCK && next(2) == 0 ? 40 : 3)};
            case "ofPaper": return new int[] {paper, from(0, 5)};
            case "job": return new int[] {paper, side(), side(), from(1, next(2) == 0 ? 9999 : 300), from(1, 15)};
            case "ofJob": return new int[] {job, from(0, 12)};
            case "expected": return new int[] {job, press, from(0, 6)};
            case "order": return new int[] {job, press};
            case "towers": return new int[] {press, from(1, 4)};
            case "ofPress": return new int[] {press, from(0, 6)};
            case "queue": return new int[] {press, from(0, next(2) == 0 ? 4 : 1)};
            case "slip": return new int[] {press, minutes(), spoiled()};
            case "terms": return new int[] {from(1, 99), from(0, 200)};
            case "many": return new int[] {from(0, 10)};
            case "quoteBehind": return new int[] {press, minutes(), spoiled(), job};
            case "sort": return new int[] {press};
            case "again":
            case "invoice":
            case "bestPress":
            case "profit": return new int[] {job};
            default: return new int[0];
        }
    }

    private int side() {
        if (kind == LITTLE_STOCK) {
            return from(20, 50);
        }
        int most = kind == SMALL_PIECES ? 9 : next(2) == 0 ? 99 : 40;
        return from(1, most);
    }

    /** Mostly one that is in the state that the call asks for. */
    private int jobFor(String name, Model model) {
        int jobs = (int) model.call("many", 0);
        boolean printed = name.equals("again") || name.equals("invoice");
        if (next(4) == 0 || !printed && !name.equals("order")) {
            return from(0, Math.max(0, jobs - 1));
        }
        int start = next(20);
        for (int k = 0; k < 20; k++) {
            int job = (start + k) % 20;
            if (job < jobs && model.call("ofJob", job, 6) == (printed ? 2 : 0)) {
                return job;
            }
        }
        return from(0, 19);
    }

    private String chosenName() {
        String name = NAMES[next(NAMES.length)];
        if (kind == LITTLE_STOCK && (name.equals("buyAll") || name.equals("invoice") && next(4) > 0)) {
            return "slip";
        }
        return kind == LONG_QUEUES && name.equals("slip") && next(4) > 0 ? "order" : name;
    }

    private int minutes() {
        int chosen = next(4);
        return from(1, chosen == 0 ? 9999 : chosen == 1 ? 1000 : 100);
    }

    private int spoiled() {
        int chosen = next(4);
        int most = chosen == 0 ? 9999 : chosen == 1 ? 300 : 20;
        return from(0, kind == LITTLE_STOCK ? most / 10 : most);
    }

    private static double ask(PrintLedger x, String name, int[] a) {
        switch (name) {
            case "paper": return x.paper(a[0], a[1], a[2], a[3]);
            case "buy": return x.buy(a[0], a[1]);
            case "buyAll": return x.buyAll();
            case "ofPaper": return x.ofPaper(a[0], a[1]);
            case "job": return x.job(a[0], a[1], a[2], a[3], a[4]);
            case "ofJob": return x.ofJob(a[0], a[1]);
            case "expected": return x.expected(a[0], a[1], a[2]);
            case "order": return x.order(a[0], a[1]);
            case "again": return x.again(a[0]);
            case "invoice": return x.invoice(a[0]);
            case "towers": return x.towers(a[0], a[1]);
            case "ofPress": return x.ofPress(a[0], a[1]);
            case "queue": return x.queue(a[0], a[1]);
            case "sort": return x.sort(a[0]);
            case "slip": return x.slip(a[0], a[1], a[2]);
            case "terms": return x.terms(a[0], a[1]);
            case "many": return x.many(a[0]);
            case "meanInvoice": return x.meanInvoice();
            case "bestPress": return x.bestPress(a[0]);
            case "quoteBehind": return x.quoteBehind(a[0], a[1], a[2], a[3]);
            default: return x.profit(a[0]);
        }
    }

    private void run(int run) {
        PrintLedger x = new PrintLedger();
        Model model = new Model();
        kind = run % 4;
        int digests = 0;
        for (int k = 0; k + digests < CALLS - 1; k++) {
            String name = chosenName();
            int[] a = argumentsOf(name, model);
            String call = "run " + run + ", call " + k + ": " + name + java.util.Arrays.toString(a);
            String due = outcome(() -> model.call(name, a));
            String got = outcome(() -> ask(x, name, a));
            if (!got.equals(due)) {
                check.report(call + " answered " + got + ", due is " + due);
                return;
            }
            if (k % 16 == 15 || got.startsWith("throws") && k % 4 == 0) {
                check.due(call + ", then digest()", model.digest(), x::digest);
                digests++;
            }
        }
    }

    private interface Answer {
        double of();
    }

    private static String outcome(Answer answer) {
        try {
            return Double.toString(answer.of());
        } catch (RuntimeException e) {
            return "throws " + e.getClass().getSimpleName();
        }
    }
}
