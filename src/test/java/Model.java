import java.math.BigInteger;
import java.util.ArrayList;
import java.util.Arrays;
import java.util.List;
import java.util.TreeSet;

/**
 * The document once more, written in another way (sets, lists, great numbers, no care for
 * speed), for ModelTest to hold the program against. It answers by method name and arguments.
 */
final class Model {
    static final class Sheet {
        int wide = 70;
        int high = 50;
        int price = 5;
        int stock = 0;
    }

    static final class Work {
        int paper;
        int copies;
        TreeSet<Integer> inks;
        int lies;
        boolean turned;
        int leaves;
        String state = "NEW";
        int made = 0;
        Integer quote = null;
        int cost = 0;
        Integer invoiced = null;
        int press = -1;
        int slips = 0;
    }

    static final class Machine {
        int towers = 2;
        TreeSet<Integer> inks = new TreeSet<>();
        List<Integer> queue = new ArrayList<>();
        int ready = 20;
        int run = 30;
        int spoil = 50;
    }

    private static final List<String> STATES = List.of("NEW", "QUEUED", "PRINTED", "INVOICED");

    private List<Sheet> papers = new ArrayList<>();
    private List<Work> jobs = new ArrayList<>();
    private List<Machine> presses = new ArrayList<>();
    private int money = 0;
    private int wage = 10;
    private int margin = 25;
    private int minutesOfSlips = 0;
    private int spoiledOfSlips = 0;

    Model() {
        for (int k = 0; k < 4; k++) {
            papers.add(new Sheet());
        }
        for (int k = 0; k < 3; k++) {
            presses.add(new Machine());
        }
    }

    private static TreeSet<Integer> set(int told) {
        TreeSet<Integer> set = new TreeSet<>();
        for (int k = 0; k < 4; k++) {
            if ((told >> k) % 2 == 1) {
                set.add(k);
            }
        }
        return set;
    }

    private static int told(TreeSet<Integer> set) {
        int sum = 0;
        for (int k : set) {
            sum += (int) BigInteger.TWO.pow(k).longValue();
        }
        return sum;
    }

    private static int up(int a, int b) {
        return a / b + (a % b > 0 ? 1 : 0);
    }

    private static int cut(long... numbers) {
        BigInteger product = BigInteger.ONE;
        for (int k = 0; k < numbers.length - 1; k++) {
            product = product.multiply(BigInteger.valueOf(numbers[k]));
        }
        return product.divide(BigInteger.valueOf(numbers[numbers.length - 1])).intValueExact();
    }

    private static void place(boolean there) {
        if (!there) {
            throw new IndexOutOfBoundsException();
        }
    }

    private static void value(boolean right) {
        if (!right) {
            throw new IllegalArgumentException();
        }
    }

    private static void state(boolean right) {
        if (!right) {
            throw new IllegalStateException();
        }
    }

    private static boolean in(int v, int least, int most) {
        return least <= v && v <= most;
    }

    private int sheets(Work w) {
        return up(w.copies > w.made ? w.copies - w.made : 0, w.lies);
    }

    private int change(Work w, TreeSet<Integer> in) {
        TreeSet<Integer> missing = new TreeSet<>(w.inks);
        missing.removeAll(in);
        return missing.size() * 4;
    }

    /** PASSES, CHANGE, SPOILED, NEEDED, MINUTES, COST, QUOTE. */
    private int[] expect(Work w, Machine m, TreeSet<Integer> in) {
        int passes = up(w.inks.size(), m.towers);
        int change = change(w, in);
        int spoiled = cut(sheets(w), m.spoil, 1000) + passes * 5;
        int needed = spoiled + sheets(w);
        int minutes = change + passes * m.ready + cut(needed, m.run, passes, 1000);
        int cost = minutes * wage + w.inks.size() * 200 + needed * papers.get(w.paper).price;
        int quote = cut(cost, 100 + margin, 100);
        return new int[] {passes, change, spoiled, needed, minutes, cost, quote};
    }

    private int forecast(int paper) {
        int sum = 0;
        for (Work w : jobs) {
            if (w.state.equals("QUEUED") && w.paper == paper) {
                Machine m = presses.get(w.press);
                sum += expect(w, m, m.inks)[3];
            }
        }
        return sum;
    }

    private int wouldBeInvoiced(Work w) {
        int pieces = Math.min(w.made, w.copies + w.copies / 10);
        return w.quote == null ? 0 : cut(w.quote, pieces, w.copies);
    }

    private int queueMinutes(Machine m) {
        int sum = 0;
        for (int k = 0; k < m.queue.size(); k++) {
            Work w = jobs.get(m.queue.get(k));
            sum += expect(w, m, k == 0 ? m.inks : jobs.get(m.queue.get(k - 1)).inks)[4];
        }
        return sum;
    }

    private Model copy() {
        Model c = new Model();
        c.papers.clear();
        c.presses.clear();
        for (Sheet s : papers) {
            Sheet t = new Sheet();
            t.wide = s.wide;
            t.high = s.high;
            t.price = s.price;
            t.stock = s.stock;
            c.papers.add(t);
        }
        for (Machine m : presses) {
            Machine t = new Machine();
            t.towers = m.towers;
            t.inks = new TreeSet<>(m.inks);
            t.queue = new ArrayList<>(m.queue);
            t.ready = m.ready;
            t.run = m.run;
            t.spoil = m.spoil;
            c.presses.add(t);
        }
        for (Work w : jobs) {
            Work t = new Work();
            t.paper = w.paper;
            t.copies = w.copies;
            t.inks = w.inks;
            t.lies = w.lies;
            t.made = w.made;
            t.slips = w.slips;
            t.press = w.press;
            t.quote = w.quote;
            t.state = w.state;
            c.jobs.add(t);
        }
        c.wage = wage;
        c.margin = margin;
        return c;
    }

    /** The answer to a call, as a number, or what the call throws. */
    double call(String name, int... a) {
        switch (name) {
            case "paper": return paper(a[0], a[1], a[2], a[3]);
            case "buy": return buy(a[0], a[1]);
            case "buyAll": return buyAll();
            case "ofPaper": return ofPaper(a[0], a[1]);
            case "job": return job(a[0], a[1], a[2], a[3], a[4]);
            case "ofJob": return ofJob(a[0], a[1]);
            case "expected": return expected(a[0], a[1], a[2]);
            case "order": return order(a[0], a[1]);
            case "again": return again(a[0]);
            case "invoice": return invoice(a[0]);
            case "towers": return towers(a[0], a[1]);
            case "ofPress": return ofPress(a[0], a[1]);
            case "queue": return queue(a[0], a[1]);
            case "sort": return sort(a[0]);
            case "slip": return slip(a[0], a[1], a[2]);
            case "terms": return terms(a[0], a[1]);
            case "many": return many(a[0]);
            case "meanInvoice": return meanInvoice();
            case "bestPress": return bestPress(a[0]);
            case "quoteBehind": return quoteBehind(a[0], a[1], a[2], a[3]);
            case "profit": return profit(a[0]);
            default: throw new UnsupportedOperationException(name);
        }
    }

    private int paper(int p, int wide, int high, int price) {
        place(in(p, 0, 3));
        value(in(wide, 20, 99) && in(high, 20, 99) && in(price, 1, 99));
        Sheet s = papers.get(p);
        int before = s.price;
        s.wide = wide;
        s.high = high;
        s.price = price;
        return before;
    }

    private int buy(int p, int lots) {
        place(in(p, 0, 3));
        value(in(lots, 1, 40) && papers.get(p).stock + lots * 250 <= 99999);
        papers.get(p).stock += lots * 250;
        money -= lots * 250 * papers.get(p).price;
        return papers.get(p).stock;
    }

    private int buyAll() {
        int together = 0;
        for (int p = 0; p < 4; p++) {
            int lots = 0;
            while (forecast(p) > papers.get(p).stock && lots < 40 && papers.get(p).stock + 250 <= 99999) {
                buy(p, 1);
                lots++;
            }
            together += lots;
        }
        return together;
    }

    private int ofPaper(int p, int what) {
        place(in(p, 0, 3));
        value(in(what, 0, 5));
        Sheet s = papers.get(p);
        int shortage = Math.max(0, forecast(p) - s.stock);
        return new int[] {s.wide, s.high, s.price, s.stock, forecast(p), shortage}[what];
    }

    private int job(int p, int wide, int high, int copies, int inks) {
        place(in(p, 0, 3));
        value(in(wide, 1, 99) && in(high, 1, 99) && in(copies, 1, 9999) && in(inks, 1, 15));
        Sheet s = papers.get(p);
        int straight = (s.wide / wide) * (s.high / high);
        int turned = (s.high / wide) * (s.wide / high);
        value(straight + turned > 0);
        state(jobs.size() < 20);
        Work w = new Work();
        w.paper = p;
        w.copies = copies;
        w.inks = set(inks);
        w.lies = Math.max(straight, turned);
        w.turned = turned > straight;
        w.leaves = s.wide * s.high - w.lies * wide * high;
        jobs.add(w);
        return jobs.size() - 1;
    }

    private int ofJob(int j, int what) {
        place(in(j, 0, jobs.size() - 1));
        value(in(what, 0, 12));
        Work w = jobs.get(j);
        return new int[] {w.paper, w.copies, told(w.inks), w.lies, w.turned ? 1 : 0, w.leaves,
            STATES.indexOf(w.state), w.made, sheets(w), w.quote == null ? 0 : w.quote, w.cost,
            w.invoiced == null ? 0 : w.invoiced, w.press}[what];
    }

    private int expected(int j, int p, int what) {
        place(in(j, 0, jobs.size() - 1) && in(p, 0, 2));
        value(in(what, 0, 6));
        return expect(jobs.get(j), presses.get(p), presses.get(p).inks)[what];
    }

    private int order(int j, int p) {
        place(in(j, 0, jobs.size() - 1) && in(p, 0, 2));
        Work w = jobs.get(j);
        state(w.state.equals("NEW"));
        w.quote = expected(j, p, 6);
        w.press = p;
        w.state = "QUEUED";
        presses.get(p).queue.add(j);
        return w.quote;
    }

    private int again(int j) {
        place(in(j, 0, jobs.size() - 1));
        Work w = jobs.get(j);
        state(w.state.equals("PRINTED") && w.made < w.copies);
        w.state = "QUEUED";
        presses.get(w.press).queue.add(0, j);
        return sheets(w);
    }

    private int invoice(int j) {
        place(in(j, 0, jobs.size() - 1));
        Work w = jobs.get(j);
        state(w.state.equals("PRINTED") && w.made >= w.copies - w.copies / 20);
        w.invoiced = wouldBeInvoiced(w);
        w.state = "INVOICED";
        money += w.invoiced;
        return w.invoiced;
    }

    private int towers(int p, int towers) {
        place(in(p, 0, 2));
        value(in(towers, 1, 4));
        int before = presses.get(p).towers;
        presses.get(p).towers = towers;
        return before;
    }

    private int ofPress(int p, int what) {
        place(in(p, 0, 2));
        value(in(what, 0, 6));
        Machine m = presses.get(p);
        return new int[] {m.towers, told(m.inks), m.ready, m.run, m.spoil, m.queue.size(), queueMinutes(m)}[what];
    }

    private int queue(int p, int at) {
        place(in(p, 0, 2) && in(at, 0, presses.get(p).queue.size() - 1));
        return presses.get(p).queue.get(at);
    }

    private int sort(int p) {
        place(in(p, 0, 2));
        Machine m = presses.get(p);
        int before = queueMinutes(m);
        List<Integer> left = new ArrayList<>(m.queue);
        List<Integer> sorted = new ArrayList<>();
        TreeSet<Integer> ahead = m.inks;
        while (!left.isEmpty()) {
            Integer next = null;
            for (Integer j : left) {
                if (next == null || change(jobs.get(j), ahead) < change(jobs.get(next), ahead)) {
                    next = j;
                }
            }
            left.remove(next);
            sorted.add(next);
            ahead = jobs.get(next).inks;
        }
        m.queue = sorted;
        return before - queueMinutes(m);
    }

    private int slip(int p, int minutes, int spoiled) {
        place(in(p, 0, 2));
        value(in(minutes, 1, 9999) && in(spoiled, 0, 9999));
        Machine m = presses.get(p);
        state(!m.queue.isEmpty() && papers.get(jobs.get(m.queue.get(0)).paper).stock > spoiled);
        Work w = jobs.get(m.queue.remove(0));
        Sheet s = papers.get(w.paper);
        int taken = Math.min(s.stock, sheets(w) + spoiled);
        int good = taken - spoiled;
        int passes = expect(w, m, m.inks)[0];
        int change = change(w, m.inks);
        int paid = minutes * wage + (w.slips == 0 ? 200 * w.inks.size() : 0);
        int rest = minutes - change - m.ready * passes;
        if (rest >= 0) {
            m.run = (3 * m.run + cut(rest, 1000, taken * passes)) / 4;
        } else {
            m.ready = (3 * m.ready + (minutes > change ? minutes - change : 0) / passes) / 4;
        }
        m.spoil = Math.min(999, (3 * m.spoil + cut(spoiled, 1000, taken)) / 4);
        m.run = Math.max(1, Math.min(999, m.run));
        m.ready = Math.max(1, Math.min(999, m.ready));
        m.inks = new TreeSet<>(w.inks);
        s.stock -= taken;
        w.made += good * w.lies;
        w.slips++;
        w.state = "PRINTED";
        w.cost += paid + taken * s.price;
        money -= paid;
        minutesOfSlips += minutes;
        spoiledOfSlips += spoiled;
        return good;
    }

    private int terms(int newWage, int newMargin) {
        value(in(newWage, 1, 99) && in(newMargin, 0, 200));
        wage = newWage;
        margin = newMargin;
        return money;
    }

    private int many(int what) {
        value(in(what, 0, 10));
        int[] answer = {jobs.size(), 0, 0, 0, 0, money, 0, 0, 0, minutesOfSlips, spoiledOfSlips};
        for (Work w : jobs) {
            answer[1 + STATES.indexOf(w.state)]++;
            answer[6] += w.invoiced == null ? 0 : w.invoiced;
            answer[7] += w.cost;
        }
        for (Sheet s : papers) {
            answer[8] += s.stock * s.price;
        }
        return answer[what];
    }

    private double meanInvoice() {
        double[] invoices = jobs.stream().filter(w -> w.invoiced != null).mapToDouble(w -> w.invoiced).toArray();
        return invoices.length == 0 ? 0 : Arrays.stream(invoices).sum() / invoices.length;
    }

    private int bestPress(int j) {
        place(in(j, 0, jobs.size() - 1));
        int best = 2;
        for (int p = 1; p >= 0; p--) {
            if (expected(j, p, 5) <= expected(j, best, 5)) {
                best = p;
            }
        }
        return best;
    }

    private int quoteBehind(int p, int minutes, int spoiled, int j) {
        place(in(j, 0, jobs.size() - 1) && in(p, 0, 2));
        Model then = copy();
        then.slip(p, minutes, spoiled);
        return then.expected(j, p, 6) - expected(j, p, 6);
    }

    private int profit(int j) {
        place(in(j, 0, jobs.size() - 1));
        return wouldBeInvoiced(jobs.get(j)) - jobs.get(j).cost;
    }

    long digest() {
        long d = 58117;
        for (int what = 0; what <= 10; what++) {
            d = d * 31 + many(what);
        }
        for (int p = 0; p < 4; p++) {
            for (int what = 0; what <= 5; what++) {
                d = d * 31 + ofPaper(p, what);
            }
        }
        for (int p = 0; p < 3; p++) {
            for (int what = 0; what <= 6; what++) {
                d = d * 31 + ofPress(p, what);
            }
            for (int j : presses.get(p).queue) {
                d = d * 31 + j;
            }
        }
        for (int j = 0; j < jobs.size(); j++) {
            for (int what = 0; what <= 12; what++) {
                d = d * 31 + ofJob(j, what);
            }
            for (int k = 0; k < 8; k++) {
                d = d * 31 + expected(j, k < 4 ? 0 : 1, 3 + k % 4);
            }
            d = d * 31 + bestPress(j);
            d = d * 31 + profit(j);
        }
        return d;
    }
}
