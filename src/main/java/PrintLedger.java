/**
 * A print shop and its ledger: papers, jobs, presses and money.
 *
 * <p>Words in capitals in the comments are those of the document's 'Terms'.
 */
public final class PrintLedger {
    private static final int NONE = -1;

    private static final int PAPERS = 4;
    private static final int PRESSES = 3;
    private static final int MOST_JOBS = 20;

    private static final int NEW = 0;
    private static final int QUEUED = 1;
    private static final int PRINTED = 2;
    private static final int INVOICED = 3;

    private static final int LOT = 250;
    private static final int MOST_LOTS = 40;
    private static final int MOST_STOCK = 99999;

    private static final int ALL_INKS = 15;
    private static final int MONEY_OF_INK = 200;
    private static final int MINUTES_OF_INK = 4;
    private static final int SPOILED_OF_PASS = 5;
    private static final int MOST_RATE = 999;

    private final Paper[] papers;
    private final Press[] presses;
    private final Job[] jobs;
    private int jobCount;
    private int money;
    private int wage;
    private int margin;
    private int minutesTold;
    private int spoiledTold;

    // Made once and filled again by each call, so that no call has to make one.
    private final Expectation expectation;
    private final Press trial;

    public PrintLedger() {
        papers = new Paper[PAPERS];
        for (int k = 0; k < papers.length; k++) {
            papers[k] = new Paper();
        }
        presses = new Press[PRESSES];
        for (int k = 0; k < presses.length; k++) {
            presses[k] = new Press();
        }
        jobs = new Job[MOST_JOBS];
        wage = 10;
        margin = 25;
        expectation = new Expectation();
        trial = new Press();
    }

    // ---- paper

    public int paper(int paper, int wide, int high, int price)
            throws IndexOutOfBoundsException, IllegalArgumentException {
        Paper sheet = paperOf(paper);
        if (isOutside(wide, 20, 99) || isOutside(high, 20, 99)) {
            throw new IllegalArgumentException("a sheet is 20 to 99 wide and high");
        }
        if (isOutside(price, 1, 99)) {
            throw new IllegalArgumentException("a price is 1 to 99");
        }
        int before = sheet.price;
        sheet.wide = wide;
        sheet.high = high;
        sheet.price = price;
        return before;
    }

    public int buy(int paper, int lots) throws IndexOutOfBoundsException, IllegalArgumentException {
        Paper sheet = paperOf(paper);
        if (isOutside(lots, 1, MOST_LOTS)) {
            throw new IllegalArgumentException("lots are 1 to 40");
        }
        if (lots > sheet.lotsWithRoom()) {
            throw new IllegalArgumentException("the stock would be above 99999");
        }
        bring(sheet, lots);
        return sheet.stock;
    }

    public int buyAll() {
        int together = 0;
        for (int k = 0; k < papers.length; k++) {
            Paper sheet = papers[k];
            if (sheet != null) {
                int wanted = divideUp(shortOf(sheet), LOT);
                int lots = Math.min(Math.min(wanted, MOST_LOTS), sheet.lotsWithRoom());
                bring(sheet, lots);
                together += lots;
            }
        }
        return together;
    }

    public int ofPaper(int paper, int what) throws IndexOutOfBoundsException, IllegalArgumentException {
        Paper sheet = paperOf(paper);
        switch (what) {
            case 0: return sheet.wide;
            case 1: return sheet.high;
            case 2: return sheet.price;
            case 3: return sheet.stock;
            case 4: return forecastOf(sheet);
            case 5: return shortOf(sheet);
            default: throw new IllegalArgumentException("of a paper one asks 0 to 5");
        }
    }

    private void bring(Paper sheet, int lots) {
        int sheets = lots * LOT;
        sheet.stock += sheets;
        money -= sheets * sheet.price;
    }

    private int forecastOf(Paper sheet) {
        int sum = 0;
        for (int k = 0; k < presses.length; k++) {
            Press press = presses[k];
            if (press != null) {
                sum += neededOf(sheet, press);
            }
        }
        return sum;
    }

    private int neededOf(Paper sheet, Press press) {
        int sum = 0;
        for (int place = 0; place < press.waiting; place++) {
            Job job = press.jobAt(place);
            if (job != null && job.sheet == sheet) {
                sum += expect(job, press, press.inks).needed;
            }
        }
        return sum;
    }

    private int shortOf(Paper sheet) {
        return Math.max(forecastOf(sheet) - sheet.stock, 0);
    }

    // ---- jobs

    public int job(int paper, int wide, int high, int copies, int inks)
            throws IndexOutOfBoundsException, IllegalArgumentException, IllegalStateException {
        Paper sheet = paperOf(paper);
        if (isOutside(wide, 1, 99) || isOutside(high, 1, 99)) {
            throw new IllegalArgumentException("a piece is 1 to 99 wide and high");
        }
        if (isOutside(copies, 1, 9999)) {
            throw new IllegalArgumentException("copies are 1 to 9999");
        }
        if (isOutside(inks, 1, ALL_INKS)) {
            throw new IllegalArgumentException("a set of inks is 1 to 15");
        }
        if (sheet.holds(wide, high) == 0 && sheet.holds(high, wide) == 0) {
            throw new IllegalArgumentException("the piece does not lie on the sheet");
        }
        int number = jobCount;
        if (number < 0 || number >= jobs.length) {
            throw new IllegalStateException("there are 20 jobs");
        }
        Job added = new Job(number, paper, sheet, copies, inks);
        added.layOut(wide, high);
        jobs[number] = added;
        jobCount = number + 1;
        return number;
    }

    public int ofJob(int job, int what) throws IndexOutOfBoundsException, IllegalArgumentException {
        Job asked = jobOf(job);
        switch (what) {
            case 0: return asked.paper;
            case 1: return asked.copies;
            case 2: return asked.inks;
            case 3: return asked.lies;
            case 4: return asked.turned ? 1 : 0;
            case 5: return asked.leaves;
            case 6: return asked.state;
            case 7: return asked.made;
            case 8: return asked.sheets();
            case 9: return asked.quote;
            case 10: return asked.cost;
            case 11: return asked.invoiced;
            case 12: return asked.press;
            default: throw new IllegalArgumentException("of a job one asks 0 to 12");
        }
    }

    public int expected(int job, int press, int what)
            throws IndexOutOfBoundsException, IllegalArgumentException {
        Job asked = jobOf(job);
        Press on = pressOf(press);
        Expectation now = expect(asked, on, on.inks);
        switch (what) {
            case 0: return now.passes;
            case 1: return now.change;
            case 2: return now.spoiled;
            case 3: return now.needed;
            case 4: return now.minutes;
            case 5: return now.cost;
            case 6: return now.quote;
            default: throw new IllegalArgumentException("of what is expected one asks 0 to 6");
        }
    }

    public int order(int job, int press) throws IndexOutOfBoundsException, IllegalStateException {
        Job ordered = jobOf(job);
        Press on = pressOf(press);
        if (ordered.state != NEW) {
            throw new IllegalStateException("the job is not new");
        }
        ordered.quote = expect(ordered, on, on.inks).quote;
        ordered.press = press;
        ordered.state = QUEUED;
        on.insert(ordered, on.waiting);
        return ordered.quote;
    }

    public int again(int job) throws IndexOutOfBoundsException, IllegalStateException {
        Job repeated = jobOf(job);
        if (repeated.state != PRINTED) {
            throw new IllegalStateException("the job is not printed");
        }
        if (repeated.made >= repeated.copies) {
            throw new IllegalStateException("nothing is lacking");
        }
        pressOf(repeated.press).insert(repeated, 0);
        repeated.state = QUEUED;
        return repeated.sheets();
    }

    public int invoice(int job) throws IndexOutOfBoundsException, IllegalStateException {
        Job billed = jobOf(job);
        if (billed.state != PRINTED) {
            throw new IllegalStateException("the job is not printed");
        }
        if (billed.made < billed.copies - billed.copies / 20) {
            throw new IllegalStateException("there are too few pieces");
        }
        billed.invoiced = billed.worth();
        billed.state = INVOICED;
        money += billed.invoiced;
        return billed.invoiced;
    }

    /** EXPECTED of a JOB on a PRESS; inksIn is given, as one asks also for the time behind another JOB. */
    private Expectation expect(Job job, Press press, int inksIn) {
        Expectation now = expectation;
        int sheets = job.sheets();
        now.passes = press.passesOf(job);
        now.change = changeOf(job, inksIn);
        now.spoiled = sheets * press.spoil / 1000 + SPOILED_OF_PASS * now.passes;
        now.needed = sheets + now.spoiled;
        long running = (long) now.needed * press.run * now.passes / 1000;
        now.minutes = now.change + press.ready * now.passes + (int) running;
        now.cost = now.minutes * wage + job.moneyOfInks() + now.needed * job.sheet.price;
        now.quote = (int) ((long) now.cost * (100 + margin) / 100);
        return now;
    }

    private static int changeOf(Job job, int inksIn) {
        return MINUTES_OF_INK * Integer.bitCount(job.inks & ~inksIn);
    }

    // ---- presses

    public int towers(int press, int towers) throws IndexOutOfBoundsException, IllegalArgumentException {
        Press changed = pressOf(press);
        if (isOutside(towers, 1, 4)) {
            throw new IllegalArgumentException("towers are 1 to 4");
        }
        int before = changed.towers;
        changed.towers = towers;
        return before;
    }

    public int ofPress(int press, int what) throws IndexOutOfBoundsException, IllegalArgumentException {
        Press asked = pressOf(press);
        switch (what) {
            case 0: return asked.towers;
            case 1: return asked.inks;
            case 2: return asked.ready;
            case 3: return asked.run;
            case 4: return asked.spoil;
            case 5: return asked.waiting;
            case 6: return minutesOfQueue(asked);
            default: throw new IllegalArgumentException("of a press one asks 0 to 6");
        }
    }

    public int queue(int press, int place) throws IndexOutOfBoundsException {
        Job there = pressOf(press).jobAt(place);
        if (there == null) {
            throw new IndexOutOfBoundsException("no such place in the queue");
        }
        return there.number;
    }

    public int sort(int press) throws IndexOutOfBoundsException {
        Press sorted = pressOf(press);
        int before = minutesOfQueue(sorted);
        sorted.bringLeastChangeAhead();
        return before - minutesOfQueue(sorted);
    }

    public int slip(int press, int minutes, int spoiled)
            throws IndexOutOfBoundsException, IllegalArgumentException, IllegalStateException {
        Press on = pressOf(press);
        Job told = jobOfSlip(on, minutes, spoiled);
        int taken = told.takenWith(spoiled);
        int spent = minutes * wage + (told.inksArePaid ? 0 : told.moneyOfInks());
        told.sheet.stock -= taken;
        told.made += (taken - spoiled) * told.lies;
        told.cost += spent + taken * told.sheet.price;
        told.inksArePaid = true;
        told.state = PRINTED;
        on.remove(0);
        on.learn(told, minutes, spoiled, taken);
        money -= spent;
        minutesTold += minutes;
        spoiledTold += spoiled;
        return taken - spoiled;
    }

    /** The JOB that a SLIP tells of; throws what slip() throws behind the test of the PRESS. */
    private static Job jobOfSlip(Press on, int minutes, int spoiled) {
        if (isOutside(minutes, 1, 9999)) {
            throw new IllegalArgumentException("minutes are 1 to 9999");
        }
        if (isOutside(spoiled, 0, 9999)) {
            throw new IllegalArgumentException("spoiled are 0 to 9999");
        }
        Job first = on.jobAt(0);
        if (first == null) {
            throw new IllegalStateException("the queue is empty");
        }
        if (first.sheet.stock <= spoiled) {
            throw new IllegalStateException("the stock is not more than what is spoiled");
        }
        return first;
    }

    private int minutesOfQueue(Press press) {
        int sum = 0;
        int inksIn = press.inks;
        for (int place = 0; place < press.waiting; place++) {
            Job job = press.jobAt(place);
            if (job != null) {
                sum += expect(job, press, inksIn).minutes;
                inksIn = job.inks;
            }
        }
        return sum;
    }

    // ---- the ledger

    public int terms(int wage, int margin) throws IllegalArgumentException {
        if (isOutside(wage, 1, 99)) {
            throw new IllegalArgumentException("a wage is 1 to 99");
        }
        if (isOutside(margin, 0, 200)) {
            throw new IllegalArgumentException("a margin is 0 to 200");
        }
        this.wage = wage;
        this.margin = margin;
        return money;
    }

    public int many(int what) throws IllegalArgumentException {
        switch (what) {
            case 0: return jobCount;
            case 1: return jobsThatAre(NEW);
            case 2: return jobsThatAre(QUEUED);
            case 3: return jobsThatAre(PRINTED);
            case 4: return jobsThatAre(INVOICED);
            case 5: return money;
            case 6: return moneyOfInvoices();
            case 7: return costOfJobs();
            case 8: return worthOfStock();
            case 9: return minutesTold;
            case 10: return spoiledTold;
            default: throw new IllegalArgumentException("of the ledger one asks 0 to 10");
        }
    }

    public double meanInvoice() {
        int invoices = jobsThatAre(INVOICED);
        return invoices == 0 ? 0.0 : (double) moneyOfInvoices() / invoices;
    }

    private int jobsThatAre(int state) {
        int count = 0;
        for (int k = 0; k < jobs.length; k++) {
            Job job = jobs[k];
            if (job != null && job.state == state) {
                count++;
            }
        }
        return count;
    }

    private int moneyOfInvoices() {
        int sum = 0;
        for (int k = 0; k < jobs.length; k++) {
            Job job = jobs[k];
            if (job != null) {
                sum += job.invoiced;
            }
        }
        return sum;
    }

    private int costOfJobs() {
        int sum = 0;
        for (int k = 0; k < jobs.length; k++) {
            Job job = jobs[k];
            if (job != null) {
                sum += job.cost;
            }
        }
        return sum;
    }

    private int worthOfStock() {
        int sum = 0;
        for (int k = 0; k < papers.length; k++) {
            Paper sheet = papers[k];
            if (sheet != null) {
                sum += sheet.stock * sheet.price;
            }
        }
        return sum;
    }

    // ---- what would be (nothing is changed)

    public int bestPress(int job) throws IndexOutOfBoundsException {
        Job asked = jobOf(job);
        int best = 0;
        int least = Integer.MAX_VALUE;
        for (int k = 0; k < presses.length; k++) {
            Press press = presses[k];
            if (press != null) {
                int cost = expect(asked, press, press.inks).cost;
                if (cost < least) {
                    best = k;
                    least = cost;
                }
            }
        }
        return best;
    }

    public int quoteBehind(int press, int minutes, int spoiled, int job)
            throws IndexOutOfBoundsException, IllegalArgumentException, IllegalStateException {
        Job asked = jobOf(job);
        Press on = pressOf(press);
        Job told = jobOfSlip(on, minutes, spoiled);
        int taken = told.takenWith(spoiled);
        int before = expect(asked, on, on.inks).quote;
        trial.takeStateOf(on);
        trial.learn(told, minutes, spoiled, taken);
        // The JOB that is asked for may be the one that is told of, and has more MADE then.
        int made = told.made;
        told.made = made + (taken - spoiled) * told.lies;
        int behind = expect(asked, trial, trial.inks).quote;
        told.made = made;
        return behind - before;
    }

    public int profit(int job) throws IndexOutOfBoundsException {
        Job asked = jobOf(job);
        return asked.worth() - asked.cost;
    }

    public long digest() {
        long d = 58117;
        for (int what = 0; what <= 10; what++) {
            d = d * 31 + many(what);
        }
        for (int paper = 0; paper < papers.length; paper++) {
            for (int what = 0; what <= 5; what++) {
                d = d * 31 + ofPaper(paper, what);
            }
        }
        for (int press = 0; press < presses.length; press++) {
            d = digestWithPress(d, press);
        }
        for (int job = 0; job < jobCount; job++) {
            d = digestWithJob(d, job);
        }
        return d;
    }

    private long digestWithPress(long before, int press) {
        long d = before;
        for (int what = 0; what <= 6; what++) {
            d = d * 31 + ofPress(press, what);
        }
        int waiting = pressOf(press).waiting;
        for (int place = 0; place < waiting; place++) {
            d = d * 31 + queue(press, place);
        }
        return d;
    }

    private long digestWithJob(long before, int job) {
        long d = before;
        for (int what = 0; what <= 12; what++) {
            d = d * 31 + ofJob(job, what);
        }
        for (int press = 0; press <= 1; press++) {
            for (int what = 3; what <= 6; what++) {
                d = d * 31 + expected(job, press, what);
            }
        }
        d = d * 31 + bestPress(job);
        return d * 31 + profit(job);
    }

    // ---- what all of these use

    private Paper paperOf(int number) {
        Paper found = number < 0 || number >= papers.length ? null : papers[number];
        if (found == null) {
            throw new IndexOutOfBoundsException("no such paper");
        }
        return found;
    }

    private Job jobOf(int number) {
        Job found = number < 0 || number >= jobs.length ? null : jobs[number];
        if (found == null) {
            throw new IndexOutOfBoundsException("no such job");
        }
        return found;
    }

    private Press pressOf(int number) {
        Press found = number < 0 || number >= presses.length ? null : presses[number];
        if (found == null) {
            throw new IndexOutOfBoundsException("no such press");
        }
        return found;
    }

    private static boolean isOutside(int value, int least, int most) {
        return value < least || value > most;
    }

    private static int divide(int amount, int by) {
        return by == 0 ? 0 : amount / by;
    }

    private static int divideUp(int amount, int by) {
        return by == 0 ? 0 : (amount + by - 1) / by;
    }

    private static final class Paper {
        private int wide = 70;
        private int high = 50;
        private int price = 5;
        private int stock;

        private int holds(int pieceWide, int pieceHigh) {
            return divide(wide, pieceWide) * divide(high, pieceHigh);
        }

        private int lotsWithRoom() {
            return (MOST_STOCK - stock) / LOT;
        }
    }

    private static final class Job {
        private final int number;
        private final int paper;
        private final Paper sheet;
        private final int copies;
        private final int inks;
        private int lies;
        private boolean turned;
        private int leaves;
        private int state = NEW;
        private int press = NONE;
        private int made;
        private int quote;
        private int cost;
        private int invoiced;
        private boolean inksArePaid;

        private Job(int number, int paper, Paper sheet, int copies, int inks) {
            this.number = number;
            this.paper = paper;
            this.sheet = sheet;
            this.copies = copies;
            this.inks = inks;
        }

        private void layOut(int wide, int high) {
            int straight = sheet.holds(wide, high);
            int across = sheet.holds(high, wide);
            turned = across > straight;
            lies = turned ? across : straight;
            leaves = sheet.wide * sheet.high - lies * wide * high;
        }

        private int sheets() {
            int lacking = Math.max(copies - made, 0);
            return divideUp(lacking, lies);
        }

        private int moneyOfInks() {
            return MONEY_OF_INK * Integer.bitCount(inks);
        }

        private int takenWith(int spoiled) {
            return Math.min(sheets() + spoiled, sheet.stock);
        }

        /** For how much it would be INVOICED, by the QUOTE as it was ordered. */
        private int worth() {
            int pieces = Math.min(made, copies + copies / 10);
            return copies == 0 ? 0 : (int) ((long) quote * pieces / copies);
        }
    }

    private static final class Press {
        private int towers = 2;
        private int inks;
        private int ready = 20;
        private int run = 30;
        private int spoil = 50;
        private final Job[] line = new Job[MOST_JOBS];
        private int waiting;

        private int passesOf(Job job) {
            return divideUp(Integer.bitCount(job.inks), towers);
        }

        private Job jobAt(int place) {
            return place < 0 || place >= waiting || place >= line.length ? null : line[place];
        }

        private void insert(Job job, int place) {
            if (place < 0 || place > waiting || waiting >= line.length) {
                return;
            }
            for (int k = waiting; k > place; k--) {
                line[k] = line[k - 1];
            }
            line[place] = job;
            waiting++;
        }

        private void remove(int place) {
            if (place < 0 || place >= waiting || waiting > line.length) {
                return;
            }
            for (int k = place; k < waiting - 1; k++) {
                line[k] = line[k + 1];
            }
            waiting--;
            line[waiting] = null;
        }

        private void bringLeastChangeAhead() {
            int inksIn = inks;
            int count = waiting;
            for (int place = 0; place < count; place++) {
                int least = placeOfLeastChange(place, inksIn);
                Job next = jobAt(least);
                if (next != null) {
                    remove(least);
                    insert(next, place);
                    inksIn = next.inks;
                }
            }
        }

        private int placeOfLeastChange(int from, int inksIn) {
            int best = from;
            int least = Integer.MAX_VALUE;
            for (int place = from; place < waiting; place++) {
                Job job = jobAt(place);
                int change = job == null ? Integer.MAX_VALUE : changeOf(job, inksIn);
                if (change < least) {
                    best = place;
                    least = change;
                }
            }
            return best;
        }

        private void takeStateOf(Press other) {
            towers = other.towers;
            inks = other.inks;
            ready = other.ready;
            run = other.run;
            spoil = other.spoil;
        }

        private void learn(Job job, int minutes, int spoiled, int taken) {
            int passes = passesOf(job);
            int working = minutes - changeOf(job, inks);
            int rest = working - ready * passes;
            if (rest >= 0) {
                run = rateOf((3 * run + divide(rest * 1000, taken * passes)) / 4);
            } else {
                ready = rateOf((3 * ready + divide(Math.max(working, 0), passes)) / 4);
            }
            spoil = Math.min((3 * spoil + divide(spoiled * 1000, taken)) / 4, MOST_RATE);
            inks = job.inks;
        }

        private static int rateOf(int learnt) {
            return Math.max(1, Math.min(learnt, MOST_RATE));
        }
    }

    /** What is EXPECTED of a JOB on a PRESS. */
    private static final class Expectation {
        private int passes;
        private int change;
        private int spoiled;
        private int needed;
        private int minutes;
        private int cost;
        private int quote;
    }
}
