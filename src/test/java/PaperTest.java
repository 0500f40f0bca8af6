/** Promises 1 to 5: a new shop, and its paper. Answers are worked out by hand from the document. */
public final class PaperTest {
    private static final Check check = new Check();
    private static final int[] FAR = {-1, Integer.MIN_VALUE, Integer.MAX_VALUE};

    public static void main(String[] args) {
        newShop();
        paperIsSet();
        paperRefuses();
        paperLeavesOldJobsAsTheyLie();
        lotsAreBought();
        buyRefuses();
        allIsBought();
        fewestLots();
        atMostFortyLots();
        atMostTheStockThereCanBe();
        ofPaperForecasts();
        check.end();
    }

    private static void newShop() {
        PrintLedger x = new PrintLedger();
        for (int what = 0; what <= 10; what++) {
            int w = what;
            check.due("new: many(" + w + ")", 0, () -> x.many(w));
        }
        int[] paper = {70, 50, 5, 0, 0, 0};
        for (int p = 0; p < 4; p++) {
            for (int what = 0; what < paper.length; what++) {
                int n = p;
                int w = what;
                check.due("new: ofPaper(" + n + ", " + w + ")", paper[w], () -> x.ofPaper(n, w));
            }
        }
        int[] press = {2, 0, 20, 30, 50, 0, 0};
        for (int p = 0; p < 3; p++) {
            for (int what = 0; what < press.length; what++) {
                int n = p;
                int w = what;
                check.due("new: ofPress(" + n + ", " + w + ")", press[w], () -> x.ofPress(n, w));
            }
        }
        check.noPlace(x, "new: ofJob(0, 0)", () -> x.ofJob(0, 0));
        // WAGE 10 and MARGIN 25: 24 minutes, 1 ink, 8 sheets: 240 + 200 + 40 = 480, and a quarter.
        x.job(0, 10, 10, 100, 1);
        check.due("new: cost", 480, () -> x.expected(0, 0, 5));
        check.due("new: quote", 600, () -> x.expected(0, 0, 6));
        PrintLedger other = new PrintLedger();
        check.due("another shop has no jobs", 0, () -> other.many(0));
    }

    private static void paperIsSet() {
        PrintLedger x = new PrintLedger();
        check.due("paper(1, 60, 40, 7)", 5, () -> x.paper(1, 60, 40, 7));
        check.due("wide", 60, () -> x.ofPaper(1, 0));
        check.due("high", 40, () -> x.ofPaper(1, 1));
        check.due("price", 7, () -> x.ofPaper(1, 2));
        check.due("paper 0 stays", 70, () -> x.ofPaper(0, 0));
        check.due("paper 0 stays", 5, () -> x.ofPaper(0, 2));
        check.due("paper(1, 20, 99, 1)", 7, () -> x.paper(1, 20, 99, 1));
        check.due("paper(1, 99, 20, 99)", 1, () -> x.paper(1, 99, 20, 99));
        check.due("wide", 99, () -> x.ofPaper(1, 0));
        check.due("high", 20, () -> x.ofPaper(1, 1));
        check.due("price", 99, () -> x.ofPaper(1, 2));
        check.due("paper(3, ..)", 5, () -> x.paper(3, 20, 20, 1));
    }

    private static void paperRefuses() {
        PrintLedger x = new PrintLedger();
        check.noPlace(x, "paper(4, ..)", () -> x.paper(4, 50, 50, 5));
        for (int far : FAR) {
            check.noPlace(x, "paper(" + far + ", ..)", () -> x.paper(far, 50, 50, 5));
            check.wrongValue(x, "wide " + far, () -> x.paper(0, far, 50, 6));
            check.wrongValue(x, "high " + far, () -> x.paper(0, 50, far, 6));
            check.wrongValue(x, "price " + far, () -> x.paper(0, 50, 50, far));
        }
        check.noPlace(x, "paper(-1, 0, 0, 0)", () -> x.paper(-1, 0, 0, 0));
        check.wrongValue(x, "wide 19", () -> x.paper(0, 19, 50, 6));
        check.wrongValue(x, "wide 100", () -> x.paper(0, 100, 50, 6));
        check.wrongValue(x, "high 19", () -> x.paper(0, 50, 19, 6));
        check.wrongValue(x, "high 100", () -> x.paper(0, 50, 100, 6));
        check.wrongValue(x, "price 0", () -> x.paper(0, 50, 50, 0));
        check.wrongValue(x, "price 100", () -> x.paper(0, 50, 50, 100));
    }

    private static void paperLeavesOldJobsAsTheyLie() {
        PrintLedger x = new PrintLedger();
        x.job(0, 10, 10, 100, 1);
        x.paper(0, 20, 30, 9);
        check.due("lies as when it came", 35, () -> x.ofJob(0, 3));
        check.due("leaves as when it came", 0, () -> x.ofJob(0, 5));
        check.due("the price is the one now", 240 + 200 + 8 * 9, () -> x.expected(0, 0, 5));
        x.job(0, 10, 10, 100, 1);
        check.due("a later one lies on the new sheet", 6, () -> x.ofJob(1, 3));
    }

    private static void lotsAreBought() {
        PrintLedger x = new PrintLedger();
        check.due("buy(0, 1)", 250, () -> x.buy(0, 1));
        check.due("money", -1250, () -> x.many(5));
        check.due("buy(0, 40)", 10250, () -> x.buy(0, 40));
        check.due("money", -51250, () -> x.many(5));
        x.paper(3, 70, 50, 99);
        check.due("buy(3, 2)", 500, () -> x.buy(3, 2));
        check.due("money", -51250 - 500 * 99, () -> x.many(5));
        check.due("stock 0", 10250, () -> x.ofPaper(0, 3));
        check.due("stock 1", 0, () -> x.ofPaper(1, 3));
        check.due("stock 3", 500, () -> x.ofPaper(3, 3));
    }

    private static void buyRefuses() {
        PrintLedger x = new PrintLedger();
        check.noPlace(x, "buy(4, 1)", () -> x.buy(4, 1));
        check.noPlace(x, "buy(-1, 0)", () -> x.buy(-1, 0));
        check.wrongValue(x, "buy(0, 0)", () -> x.buy(0, 0));
        check.wrongValue(x, "buy(0, 41)", () -> x.buy(0, 41));
        for (int far : FAR) {
            check.noPlace(x, "buy(" + far + ", 1)", () -> x.buy(far, 1));
            check.wrongValue(x, "buy(0, " + far + ")", () -> x.buy(0, far));
        }
        for (int k = 0; k < 9; k++) {
            x.buy(0, 40);
        }
        check.wrongValue(x, "stock would be 100000", () -> x.buy(0, 40));
        check.due("stock is 99750", 99750, () -> x.buy(0, 39));
        check.wrongValue(x, "stock would be 100000", () -> x.buy(0, 1));
        check.due("another paper", 250, () -> x.buy(1, 1));
        x.job(1, 70, 50, 1, 1);
        x.order(0, 0);
        x.slip(0, 24, 0);
        for (int k = 0; k < 9; k++) {
            x.buy(1, 40);
        }
        check.wrongValue(x, "stock would be 100249", () -> x.buy(1, 40));
        check.due("stock is 99999", 99999, () -> x.buy(1, 39));
    }

    private static void allIsBought() {
        PrintLedger x = new PrintLedger();
        check.due("nothing to buy for", 0, x::buyAll);
        // 286 sheets, 14 + 5 spoiled.
        x.job(0, 10, 10, 9999, 1);
        check.due("a new job is not in a queue", 0, x::buyAll);
        x.order(0, 0);
        check.due("forecast", 305, () -> x.ofPaper(0, 4));
        check.due("short", 305, () -> x.ofPaper(0, 5));
        check.due("two lots", 2, x::buyAll);
        check.due("stock", 500, () -> x.ofPaper(0, 3));
        check.due("money", -2500, () -> x.many(5));
        check.due("forecast stays", 305, () -> x.ofPaper(0, 4));
        check.due("nothing is short", 0, () -> x.ofPaper(0, 5));
        check.due("nothing is short", 0, x::buyAll);
        x.paper(2, 70, 50, 3);
        x.job(2, 10, 10, 9999, 1);
        x.job(3, 10, 10, 100, 1);
        x.order(1, 2);
        x.order(2, 1);
        check.due("two and one", 3, x::buyAll);
        check.due("stock 1", 0, () -> x.ofPaper(1, 3));
        check.due("stock 2", 500, () -> x.ofPaper(2, 3));
        check.due("stock 3", 250, () -> x.ofPaper(3, 3));
        check.due("money", -2500 - 1500 - 1250, () -> x.many(5));
    }

    private static void fewestLots() {
        PrintLedger x = new PrintLedger();
        // 234 sheets, 11 + 5 spoiled: 250, which is one lot.
        x.job(0, 70, 50, 234, 1);
        x.order(0, 0);
        check.due("forecast", 250, () -> x.ofPaper(0, 4));
        check.due("one lot", 1, x::buyAll);
        // One sheet more is another lot.
        x.job(1, 70, 50, 235, 1);
        x.order(1, 0);
        check.due("forecast", 251, () -> x.ofPaper(1, 4));
        check.due("two lots", 2, x::buyAll);
    }

    private static void atMostFortyLots() {
        PrintLedger x = new PrintLedger();
        // 9999 sheets, 499 + 5 spoiled.
        x.job(1, 70, 50, 9999, 1);
        x.order(0, 0);
        check.due("short", 10503, () -> x.ofPaper(1, 5));
        check.due("forty of it", 40, x::buyAll);
        check.due("still short", 503, () -> x.ofPaper(1, 5));
        check.due("the others", 3, x::buyAll);
        check.due("stock", 10750, () -> x.ofPaper(1, 3));
    }

    private static void atMostTheStockThereCanBe() {
        PrintLedger x = new PrintLedger();
        for (int k = 0; k < 10; k++) {
            int n = k;
            x.job(2, 70, 50, 9999, 1);
            x.order(n, n % 3);
        }
        for (int k = 0; k < 9; k++) {
            x.buy(2, 40);
        }
        check.due("short", 15030, () -> x.ofPaper(2, 5));
        x.job(0, 10, 10, 100, 1);
        x.order(10, 0);
        check.due("39 of it, and 1 of paper 0", 40, x::buyAll);
        check.due("stock", 99750, () -> x.ofPaper(2, 3));
        check.due("no more", 0, x::buyAll);
        check.due("still short", 5280, () -> x.ofPaper(2, 5));
        upToTheLastSheet();
    }

    private static void upToTheLastSheet() {
        PrintLedger x = new PrintLedger();
        x.job(0, 70, 50, 1, 1);
        x.order(0, 0);
        x.buy(0, 1);
        x.slip(0, 24, 0);
        for (int k = 0; k < 9; k++) {
            x.buy(0, 40);
        }
        // RUN is 22 and SPOIL 37: 9999 + 369 + 5 sheets of each.
        for (int k = 1; k < 11; k++) {
            x.job(0, 70, 50, 9999, 1);
            x.order(k, 0);
        }
        check.due("forecast", 103730, () -> x.ofPaper(0, 4));
        check.due("39 lots", 39, x::buyAll);
        check.due("stock", 99999, () -> x.ofPaper(0, 3));
    }

    private static void ofPaperForecasts() {
        PrintLedger x = new PrintLedger();
        // 29 sheets, 1 + 5 spoiled on press 0; 1 + 10 on press 1, with one tower.
        x.job(0, 10, 10, 1000, 3);
        x.job(0, 10, 10, 1000, 3);
        x.job(1, 10, 10, 1000, 3);
        x.towers(1, 1);
        x.order(0, 0);
        check.due("of one", 35, () -> x.ofPaper(0, 4));
        x.order(1, 1);
        check.due("of both, each on its press", 75, () -> x.ofPaper(0, 4));
        check.due("not of another paper", 0, () -> x.ofPaper(1, 4));
        x.towers(1, 2);
        check.due("as expected now", 70, () -> x.ofPaper(0, 4));
        x.buy(0, 1);
        check.due("short is not below 0", 0, () -> x.ofPaper(0, 5));
        x.slip(0, 50, 6);
        check.due("a printed job is not forecast", 35, () -> x.ofPaper(0, 4));
        check.noPlace(x, "ofPaper(4, 0)", () -> x.ofPaper(4, 0));
        check.noPlace(x, "ofPaper(4, 6)", () -> x.ofPaper(4, 6));
        check.wrongValue(x, "ofPaper(0, 6)", () -> x.ofPaper(0, 6));
        for (int far : FAR) {
            check.noPlace(x, "ofPaper(" + far + ", 0)", () -> x.ofPaper(far, 0));
            check.wrongValue(x, "ofPaper(0, " + far + ")", () -> x.ofPaper(0, far));
        }
    }
}
