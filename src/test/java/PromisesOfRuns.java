/** Promises 15 to 24: RUNS, what they left, the further MONTH, and REFORM held against REFORM. */
public final class PromisesOfRuns {
    private static final String HUNDREDS = " makes 100 100 100 100 100 100 100 100 100 100 100 100";

    public static void main(String[] args) {
        runOfNothing();
        asked();
        carriedInTime();
        farms();
        bought();
        classes();
        bestPanAndTown();
        wordsThatRatesAskFor();
        bounds();
        waysThatAreLike();
        drawingBeyondCoins();
        smuggled();
        asItWasRun();
        judged();
        Check.done();
    }

    private static void runOfNothing() {
        SaltOffice x = new SaltOffice();
        Check.due("run(0, 240, 0)", x.run(0, 240, 0), 0);
        Check.due("ran(10)", x.ran(10), 240);
        Check.due("run(4, 1, 0)", x.run(4, 1, 0), -1);
        Check.due("run(-1, 1, 0)", x.run(-1, 1, 0), -1);
        Check.due("run(0, -1, 0)", x.run(0, -1, 0), -1);
        Check.due("run(0, 241, 0)", x.run(0, 241, 0), -1);
        Check.due("they do nothing", x.ran(10), 240);
        Check.due("run(3, 0, 0)", x.run(3, 0, 0), 0);
        Check.due("ran(10) of 0 MONTHS", x.ran(10), 0);
    }

    private static void asked() {
        SaltOffice x = Check.office(Check.LAND, "rate 20;", 1000);
        x.run(0, 4, 0);
        long[] ran = {0, 100, 0, 0, 0, 0, 1, 100, 1, 2, 4};
        for (int what = 0; what < ran.length; what++) {
            Check.due("ran(" + what + ")", x.ran(what), ran[what]);
        }
        Check.due("ran(-1)", x.ran(-1), -1);
        Check.due("ran(11)", x.ran(11), -1);
        int[][] wrong = {{1, 0, 0}, {-1, 0, 0}, {0, 4, 0}, {0, -1, 0}, {0, 0, 3}, {0, 0, -1}};
        for (int[] w : wrong) {
            Check.due("fort", x.fort(w[0], w[1], w[2]), -1);
            Check.due("pan", x.pan(w[0], w[1], w[2]), -1);
            Check.due("town", x.town(w[0], w[1], w[2]), -1);
            Check.due("book", x.book(w[0], w[1], w[2]), -1);
        }
        Check.due("fort(0, 0, 2)", x.fort(0, 0, 2), -1);
        Check.due("pan(0, 0, 2)", x.pan(0, 0, 2), -1);
        Check.due("paper(-1, 0)", x.paper(-1, 0), -1);
        Check.due("paper(3, 0)", x.paper(3, 0), -1);
        Check.due("paper(0, 8)", x.paper(0, 8), -1);
        Check.due("paper(0, -1)", x.paper(0, -1), -1);
        int[] paper = {0, 0, 100, 1, 30, 0, 1, 0};
        for (int what = 0; what < paper.length; what++) {
            Check.due("paper(0, " + what + ")", x.paper(0, what), paper[what]);
        }
        Check.due("way(0, 5)", x.way(0, 5), -1);
        Check.due("way(0, -1)", x.way(0, -1), -1);
        Check.due("way(-1, 0)", x.way(-1, 0), -1);
        Check.due("worth(-1)", x.worth(-1), -1000000000000L);
        x.merchant(1);
        Check.due("fort without a RUN", x.fort(0, 0, 0), -1);
        Check.due("paper without a RUN", x.paper(0, 0), -1);
        Check.due("way without a RUN", x.way(0, 0), -1);
        Check.due("worth without a RUN", x.worth(0), -1000000000000L);
        Check.due("book without a RUN", x.book(0, 0, 0), -1);
    }

    private static void carriedInTime() {
        // 61 days are three MONTHS, 60 two; on the spot one.
        int[][] ways = {{61, 3}, {60, 2}, {31, 2}, {1, 1}};
        for (int[] w : ways) {
            SaltOffice x = Check.office("road p0 p1 " + Math.min(w[0], 45) + ";" + (w[0] > 45 ? "road p1 p2 " + (w[0] - 45) + ";" : "")
                + "fort f at p0 eats 0 store 0; pan s at p0" + HUNDREDS + " serves 0; town t at " + (w[0] > 45 ? "p2" : "p1")
                + " of 0 wants 10 price 100 grain 10 cost 1;", "rate 10;", 1000);
            x.costs(1, 5, 1, 9999, 20);
            x.run(0, 9, 0);
            Check.due("grain of " + w[0] + " days: too early", x.fort(0, w[1] - 1, 0), 0);
            Check.due("grain of " + w[0] + " days", x.fort(0, w[1], 0), 10);
            Check.due("its PAPER", x.paper(0, 3), w[1]);
            Check.due("its DAYS", x.paper(0, 4), w[0]);
            Check.due("it draws at once", x.paper(0, 6), w[1]);
            Check.due("salt of " + w[0] + " days: too early", x.town(0, 2 * w[1] - 1, 0), 0);
            // 10 sacks come and are used in that MONTH: what shows is that they are sold.
            x.run(0, 2 * w[1], 0);
            Check.due("not sold yet", x.ran(1), 0);
            x.run(0, 2 * w[1] + 1, 0);
            Check.due("sold", x.ran(1), 10);
        }
    }

    private static void farms() {
        SaltOffice x = Check.office("fort f at p0 eats 0 store 0; pan s at p0" + HUNDREDS
            + " serves 0; town t at p0 of 0 wants 10 price 10 grain 9 cost 1;", "rate 10;", 1000);
        Check.due("run(0, 13, 0)", x.run(0, 13, 0), 1);
        // WORTH 30: ten grain gain 300 - 20; (24 * 280 - 500) / 24 = 259.
        Check.due("founding", x.book(0, 0, 1), 3);
        Check.due("founding gains", x.book(0, 0, 2), 259);
        Check.due("founding costs", x.book(0, 0, 0), 500);
        Check.due("not ripe: stay", x.book(0, 11, 1), 0);
        Check.due("stay gains", x.book(0, 11, 2), 0);
        Check.due("farming", x.book(0, 12, 1), 2);
        Check.due("farming gains", x.book(0, 12, 2), 5 * 280);
        Check.due("farming costs", x.book(0, 12, 0), 400);
        Check.due("its grain comes at once", x.fort(0, 12, 0), 50);
        Check.due("its PAPER", x.paper(0, 2), 50);
        Check.due("given at once", x.paper(0, 3), 12);
        Check.due("DAYS of it", x.paper(0, 4), 0);
        Check.due("not bought", x.paper(0, 5), 0);
        Check.due("waits", x.paper(0, 6), -1);
        x.run(0, 14, 0);
        Check.due("draws in the next", x.paper(0, 6), 13);
        x.run(0, 0, 0);
        Check.due("way(0, 0)", x.way(0, 0), 3);
        Check.due("way(0, 1)", x.way(0, 1), 0);
        Check.due("way(0, 2)", x.way(0, 2), -1);
        Check.due("way(0, 3)", x.way(0, 3), 1);
        Check.due("way(0, 4)", x.way(0, 4), 259);
        // Too dear to found, or nothing to gain by it.
        x.costs(1, 5, 1, 1001, 20);
        x.run(0, 1, 0);
        Check.due("founding is too dear", x.book(0, 0, 1), 0);
        // 24 * 280 - 6720 is nothing.
        SaltOffice y = Check.office("fort f at p0 eats 0 store 0; pan s at p0" + HUNDREDS
            + " serves 0; town t at p0 of 0 wants 10 price 10 grain 9 cost 1;", "rate 10;", 9000);
        y.costs(1, 5, 1, 6720, 20);
        y.run(0, 1, 0);
        Check.due("founding gains nothing", y.book(0, 0, 1), 0);
        y.costs(1, 5, 1, 0, 0);
        y.run(0, 13, 0);
        Check.due("a farm that costs nothing", y.book(0, 12, 2), 5 * 300);
        Check.due("its coins", y.book(0, 12, 0), 9000);
        // DEAD ones lose their FARMS, and the HEIR has none of them.
        y.merchant(0);
        y.dead(0, 1, 1);
        y.run(0, 14, 0);
        Check.due("the HEIR founds anew", y.book(1, 0, 1), 3);
        Check.due("and farms their own", y.book(1, 12, 1), 2);
    }

    private static void bought() {
        SaltOffice x = Check.office(Check.LAND, "coin 5; most 74;", 1000, 120, 49, 1000);
        x.run(0, 1, 0);
        // Fifty for the first; the second has coins for twenty, and MOST has 24 left; then there are 4: no ten.
        Check.due("first buys", x.paper(0, 2), 50);
        Check.due("second buys", x.paper(1, 2), 20);
        Check.due("PAPERS", x.run(0, 1, 0), 2);
        Check.due("the third can't", x.book(2, 0, 1), 0);
        Check.due("the fourth can't", x.book(3, 0, 1), 0);
        Check.due("to the state", x.ran(2), 350);
        Check.due("PAPER 1 of", x.paper(1, 0), 1);
        Check.due("bought", x.paper(1, 5), 1);
        // The second's WORTH: 36 less one MONTH of fifty sacks that wait.
        Check.due("second gains", x.book(1, 0, 2), 20 * (36 - 1 - 5));
        Check.due("way of the third, with MOST anew", x.way(2, 0), 0);
        Check.due("way of the fourth, with MOST anew", x.way(3, 0), 4);
        Check.due("n of the fourth", x.way(3, 3), 5);
        Check.due("FORT of a buyer", x.way(3, 1), -1);
        Check.due("TOWN of a buyer", x.way(3, 2), -1);
        // 70 sacks wait: 36 - 70 / 50 - 5.
        Check.due("gain of the fourth", x.way(3, 4), 50 * 30);
    }

    private static void classes() {
        String land = "fort f at p0 eats 0 store 0; pan s at p0 makes 0 0 30 30 30 30 30 30 30 30 30 30 serves 0;"
            + "town t at p0 of 0 wants 100 price 100 grain 0 cost 1;";
        String buy = "coin 1; most 500;";
        // In MONTH 0 PAPERS for 10, 30 and 20 sacks are bought, for coins that just do.
        SaltOffice x = Check.office(land, buy, 10, 30, 20);
        x.run(0, 3, 0);
        drew(x, "as given: the second holds up the third, that has salt enough", 2, -1, -1);
        x.run(0, 4, 0);
        drew(x, "as given, in the next", 2, 3, 3);
        Check.reform(x, 1, buy + "class sacks > 25; class sacks > 15;");
        x.run(1, 3, 0);
        drew(x, "by class: the greatest first", -1, 2, -1);
        x.run(1, 4, 0);
        drew(x, "then the others, by class", 3, 2, 3);
        Check.reform(x, 2, buy + "class sacks = 20;");
        x.run(2, 3, 0);
        drew(x, "those of no class behind, as given", 2, -1, 2);
        Check.reform(x, 3, buy + "class age = 2 and waiting = 60 and made = 30 and bought and not days and sacks = 30;");
        x.run(3, 3, 0);
        drew(x, "told as drawing begins", -1, 2, -1);
        Check.due("MONTHS waited", x.ran(8), 2);
        Check.due("drawn", x.ran(9), 1);
        Check.due("wait", x.ran(6), 2);
        Check.due("sacks that wait", x.ran(7), 30);
    }

    private static void drew(SaltOffice x, String what, int first, int second, int third) {
        Check.due(what + ": paper(0, 6)", x.paper(0, 6), first);
        Check.due(what + ": paper(1, 6)", x.paper(1, 6), second);
        Check.due(what + ": paper(2, 6)", x.paper(2, 6), third);
    }

    private static void bestPanAndTown() {
        SaltOffice x = Check.office("road p0 p1 45; road p0 p2 10; pan a at p0 makes 10 20 1 1 1 1 1 1 1 1 1 1 serves 0 1;"
            + "pan b at p1 makes 0 0 0 0 0 0 0 0 0 0 0 0 serves 2; pan c at p9 makes 1 1 1 1 1 1 1 1 1 1 1 1 serves 0 1 2;"
            + "town s at p2 of 0 wants 3 price 5 grain 0 cost 1; town t at p1 of 1 wants 0 price 21 grain 0 cost 1;"
            + "town u at p0 of 2 wants 1 price 12 grain 0 cost 1;", "coin 1; most 30; tax 3;", 30);
        x.costs(7, 50, 4, 500, 20);
        x.run(0, 0, 0);
        // To s: 15 - 3 - 70 / 10 - 4 * 1 = 1; to t: 21 - 3 - 315 / 10 - 4 * 2 = -21.
        Check.due("worth(0)", x.worth(0), 1);
        // To u: 36 - 3 - 31 - 8.
        Check.due("worth(1)", x.worth(1), -6);
        Check.due("no way from p9", x.worth(2), -1000000000000L);
        Check.due("nothing gained above coin", x.way(0, 0), 0);
        x.costs(1, 3, 4, 500, 20);
        x.run(0, 1, 0);
        // From a to s: 15 - 3 - 1 - 4 = 7; to t: 21 - 3 - 4 - 8 = 6. From b to u: 36 - 3 - 4 - 8 = 21.
        Check.due("worth(0) by cheap ways", x.worth(0), 7);
        Check.due("BEST PAN", x.paper(0, 1), 1);
        Check.due("30 sacks wait there", x.pan(1, 0, 1), 30);
        // b makes nothing: the twelfth part is 1 at least.
        Check.due("worth(1) behind them", x.worth(1), 21 - 4 * 30);
        Check.due("gained", x.book(0, 0, 2), 30 * 20);
        // Of TOWNS that are alike the first gets the salt.
        SaltOffice y = Check.office("pan a at p0" + HUNDREDS + " serves 0; town s at p0 of 0 wants 50 price 5 grain 0 cost 1;"
            + "town t at p0 of 0 wants 50 price 5 grain 0 cost 1;", "coin 1; most 90;", 90);
        y.costs(1, 9, 1, 500, 20);
        y.run(0, 3, 0);
        Check.due("the first of like TOWNS", y.town(0, 2, 0), 40);
        Check.due("not the second", y.town(1, 2, 0), 0);
    }

    private static void wordsThatRatesAskFor() {
        String land = "road p0 p1 20; fort f at p0 eats 30 store 100; fort g at p1 eats 0 store 7; pan s at p0" + HUNDREDS
            + " serves 0; town t at p0 of 0 wants 1 price 10 grain 20 cost 1;";
        // WORTH 30; carrying one ten to f costs 10, to g 30. In MONTH 0 f has 70 behind eating: need 2.
        rate(land, "1*(days=0)*(store=70)*(need=2)", 1, 0, 30 - 10);
        rate(land, "1*(days=20)*(store=7)*(need=9999)", 1, 1, 0);
        rate(land, "2*(days=20)*(store=7)*(need=9999)", 1, 1, 60 - 30);
        rate(land, "(made=100)*(waiting=0)*(month=0)*(year=0)*(1-days/20)", 1, 0, 20);
        rate(land, "7/2*2-5", 1, 0, 30 - 10);
        rate(land, "2-3*4", 0, -1, 0);
        rate(land, "5/0+1", 1, 0, 20);
        rate(land, "not 0", 1, 0, 20);
        rate(land, "not 5 or 3 and 2", 1, 0, 20);
        rate(land, "9 or 0 and 0", 1, 0, 20);
        rate(land, "(9 or 0) and 0", 0, -1, 0);
        rate(land, "not 2 > 3", 1, 0, 20);
        rate(land, "(0-7)/2+4", 1, 0, 20);
        rate(land, "9999*9999*9999", 1, 0, wrapped(9999 * 9999 * 9999) * 30 - 10);
        rate(land, "9999+1", 1, 0, 9999 * 30 - 10);
        // Later MONTHS: the RUN's year and month.
        SaltOffice x = Check.office(land, "rate (year=2)*(month=3)*(1-days/20);", 10);
        x.costs(1, 1, 1, 9999, 20);
        Check.due("nothing before", x.run(0, 27, 0), 0);
        Check.due("in the further MONTH 27", x.way(0, 0), 1);
        x.run(0, 28, 0);
        Check.due("in MONTH 27", x.book(0, 27, 1), 1);
        Check.due("not in MONTH 28", x.way(0, 0), 0);
    }

    private static int wrapped(int rate) {
        return Math.max(0, Math.min(9999, rate));
    }

    private static void rate(String land, String e, int way, int fort, long gain) {
        SaltOffice x = Check.office(land, "rate " + e + ";", 30);
        x.costs(1, 1, 1, 9999, 20);
        x.run(0, 1, 0);
        if (gain > 0 || way == 0) {
            Check.due("rate " + e + ": way", x.book(0, 0, 1), way);
            Check.due("rate " + e + ": gain", x.book(0, 0, 2), gain);
        } else {
            Check.due("rate " + e + ": like staying, the least number", x.book(0, 0, 1), 0);
        }
        int came = x.run(0, 2, 0) > 0 ? 10 : 0;
        if (fort == 0) {
            Check.due("rate " + e + ": the first FORT's grain", x.fort(0, 1, 0), 40 + came);
        } else if (gain > 0) {
            Check.due("rate " + e + ": the second FORT's grain", x.fort(1, 1, 0), 7 + came);
        }
    }

    private static void bounds() {
        // A tax above PRICE: the MERCHANT gets nothing, the state its tax.
        SaltOffice x = Check.office(Check.LAND, "coin 1; most 10; tax 40 * (month > 1) - 99 * (month < 2);", 10);
        x.run(0, 3, 0);
        Check.due("the merchant's coins", x.book(0, 2, 0), 0);
        Check.due("the state's coins", x.ran(2), 10 + 10 * 40);
        Check.due("sold", x.ran(1), 10);
        // coin at 9999 at most, MOST at 9999: WORTH can't reach it.
        Check.reform(x, 1, "coin 9999 * 9; most 9999 * 9;");
        x.run(1, 1, 0);
        Check.due("coin is too dear", x.book(0, 0, 1), 0);
        // coin of 0, or below: nothing is for sale.
        Check.reform(x, 2, "coin 0 - 5; most 100;");
        x.run(2, 1, 0);
        Check.due("coin below 0", x.book(0, 0, 1), 0);
        // PRICE: no less than a quarter; the usual one if nothing is wanted.
        SaltOffice y = Check.office("pan s at p0" + HUNDREDS + " serves 0;town t at p0 of 0 wants 1 price 7 grain 0 cost 1;"
            + "town u at p0 of 1 wants 0 price 9 grain 0 cost 1;", "coin 1; most 50;", 999);
        y.run(0, 3, 0);
        Check.due("stock behind use", y.town(0, 2, 0), 49);
        Check.due("a quarter", y.town(0, 2, 1), 1);
        Check.due("three times for an empty one", y.town(0, 0, 1), 21);
        Check.due("nothing wanted", y.town(1, 2, 1), 9);
    }

    private static void waysThatAreLike() {
        String towns = "town t at p1 of 0 wants 1 price 10 grain 50 cost 1;town u at p0 of 1 wants 1 price 10 grain 50 cost 1;"
            + "town v at p0 of 1 wants 1 price 10 grain 50 cost 1;";
        SaltOffice x = Check.office("road p0 p1 1;fort f at p9 eats 0 store 0;fort g at p0 eats 0 store 0;fort h at p0 eats 0 store 0;pan s at p1"
            + HUNDREDS + " serves 0;pan r at p1" + HUNDREDS + " serves 0;" + towns, "rate 1;", 1000, 1000, 1000);
        x.costs(0, 5, 1, 9999, 20);
        x.run(0, 0, 0);
        Check.due("like ones: the least number", x.way(0, 0), 1);
        Check.due("then the first FORT with a way", x.way(0, 1), 1);
        Check.due("then the first TOWN", x.way(0, 2), 0);
        x.run(0, 1, 0);
        Check.due("grain is left for the second elsewhere", x.book(1, 0, 1), 1);
        Check.due("and for the third", x.book(2, 0, 1), 1);
        x.merchant(1000);
        x.run(0, 1, 0);
        Check.due("but none for a fourth", x.book(3, 0, 1), 0);
        Check.due("all grain anew in the further MONTH", x.way(2, 2), 0);
        x.run(0, 2, 0);
        Check.due("the first of like PANS is BEST", x.paper(0, 1), 0);
        // Carrying 5 tens at 10 each gains as much as buying 50 sacks at 1 each.
        Check.reform(x, 1, "rate 10; coin 1; most 100;");
        x.run(1, 0, 0);
        Check.due("carrying gains as buying", x.way(0, 4), 5 * (10 * 30 - 10));
        Check.due("the least number of like ones", x.way(0, 0), 1);
    }

    private static void drawingBeyondCoins() {
        SaltOffice x = Check.office("road p0 p1 90;pan s at p0" + HUNDREDS + " serves 0;town t at p1 of 0 wants 90 price 100 grain 0 cost 1;",
            "coin 2; most 10;", 100);
        x.costs(5, 1, 0, 9999, 20);
        // Ten sacks cost 20; drawing them costs 45 a sack: more than the 60 that are left behind a second buying.
        x.run(0, 1, 0);
        Check.due("bought", x.book(0, 0, 0), 80);
        x.run(0, 2, 0);
        Check.due("paid as far as coins go", x.book(0, 1, 0), 0);
        x.run(0, 5, 0);
        Check.due("sold all the same", x.ran(1), 10);
        Check.due("none is LOST", x.ran(5), 0);
        Check.due("coins", x.book(0, 4, 0), 3000 - 20);
    }

    private static void smuggled() {
        String land = "road p0 p1 20;pan s at p0 makes 200 200 200 200 200 200 200 200 200 200 200 200 serves 0;"
            + "town a at p0 of 0 wants 10 price 10 grain 0 cost 1;town b at p1 of 1 wants 7 price 100 grain 0 cost 1;";
        SaltOffice x = Check.office(land, "coin 1; most 1000; guard 50;", 1000);
        x.costs(1, 10, 1, 500, 20);
        x.run(0, 3, 0);
        // MONTH 2: 100 come to a, 10 are used; a tenth of 90 is 9, b wants 7, half of it is caught.
        Check.due("ran(3)", x.ran(3), 4);
        Check.due("ran(4)", x.ran(4), 3);
        Check.due("town(0, 2, 0)", x.town(0, 2, 0), 83);
        Check.due("town(1, 2, 0)", x.town(1, 2, 0), 4);
        Check.due("town(1, 2, 2)", x.town(1, 2, 2), 4);
        Check.due("town(0, 2, 2)", x.town(0, 2, 2), 0);
        Check.due("town(1, 1, 2)", x.town(1, 1, 2), 0);
        Check.due("town(1, 2, 1)", x.town(1, 2, 1), 100 * (21 - 4) / 7);
        Check.due("town(0, 2, 1)", x.town(0, 2, 1), 2);
        Check.reform(x, 1, "coin 1; most 1000; guard 400;");
        x.run(1, 3, 0);
        Check.due("all are caught", x.ran(4), 7);
        Check.due("none comes", x.ran(3), 0);
        Check.due("they are gone", x.town(0, 2, 0), 83);
        // Of one DISTRICT none goes; neither does it where PRICES are no further apart than DAYS.
        SaltOffice y = Check.office(land.replace("of 1", "of 0").replace("serves 0", "serves 0 1"), "coin 1; most 1000;", 1000);
        y.costs(1, 10, 1, 500, 20);
        y.run(0, 6, 0);
        Check.due("of one DISTRICT", y.ran(3), 0);
        // a is at 2; b at 3 * 7 = 21, or 3 * 8 = 24 - but DAYS are 20.
        SaltOffice z = Check.office(land.replace("price 100", "price 7"), "coin 1; most 1000;", 1000);
        z.costs(1, 10, 1, 500, 20);
        z.run(0, 3, 0);
        Check.due("19 apart", z.ran(3), 0);
        SaltOffice u = Check.office(land.replace("price 100", "price 7").replace("p1 20", "p1 19"), "coin 1; most 1000;", 1000);
        u.costs(1, 10, 1, 500, 20);
        u.run(0, 3, 0);
        Check.due("19 apart by 19 days", u.ran(3), 0);
        SaltOffice w = Check.office(land.replace("price 100", "price 8"), "coin 1; most 1000;", 1000);
        w.costs(1, 10, 1, 500, 20);
        w.run(0, 3, 0);
        Check.due("22 apart", w.ran(3), 7);
        SaltOffice v = Check.office(land.replace("road p0 p1 20;", ""), "coin 1; most 1000;", 1000);
        v.costs(1, 10, 1, 500, 20);
        v.run(0, 3, 0);
        Check.due("without a way", v.ran(3), 0);
    }

    private static void asItWasRun() {
        SaltOffice x = Check.office(Check.LAND, "rate 20;", 1000);
        x.run(0, 4, 0);
        Check.reform(x, 0, "coin 1; most 100; tax 5;");
        x.dead(0, 0, -1);
        Check.due("way by the REFORM as it was run", x.way(0, 0), 1);
        Check.due("its gain", x.way(0, 4), 2550);
        Check.due("worth by it", x.worth(0), 28);
        Check.due("what was run stays", x.ran(1), 100);
        x.untell(0);
        x.run(0, 4, 0);
        Check.due("run anew by the new one", x.way(0, 0), 4);
    }

    private static void judged() {
        SaltOffice x = Check.office(Check.LAND, "rate 20;", 1000);
        Check.reform(x, 1, "coin 5; most 100;");
        x.run(0, 3, 0);
        // In 8 MONTHS without grain the FORT starves.
        Check.due("less STARVED: first", x.judge(0, 1, 8, 0), 0);
        Check.due("less STARVED: second", x.judge(1, 0, 8, 0), 1);
        Check.due("what was run last stays", x.ran(10), 3);
        Check.due("and its PAPERS", x.paper(1, 3), 2);
        Check.due("and its WAY", x.way(0, 0), 1);
        // 4 MONTHS: 1 MONTH waited by 2 PAPERS, against a MONTH by each.
        Check.due("less waited for each", x.judge(1, 0, 4, 0), 1);
        Check.due("all like", x.judge(1, 1, 8, 0), 2);
        // None drawn is worse than any, and like none drawn.
        Check.due("none drawn: second", x.judge(0, 2, 4, 0), 0);
        Check.due("none drawn: first", x.judge(2, 1, 4, 0), 1);
        Check.due("none drawn by both", x.judge(2, 3, 4, 0), 2);
        // In one MONTH none draws; the state's coins tell.
        Check.due("more coins: first", x.judge(1, 0, 1, 0), 0);
        Check.due("more coins: second", x.judge(2, 1, 1, 0), 1);
        Check.due("0 MONTHS", x.judge(0, 1, 0, 0), 2);
        int[][] wrong = {{4, 0, 1}, {0, 4, 1}, {-1, 0, 1}, {0, -1, 1}, {0, 0, -1}, {0, 0, 241}};
        for (int[] w : wrong) {
            Check.due("judge that can't be", x.judge(w[0], w[1], w[2], 0), -1);
        }
        // As known at k: dead from the beginning, neither does anything.
        x.later(1);
        x.dead(0, 0, -1);
        Check.due("as known at 0", x.judge(0, 1, 8, 0), 0);
        Check.due("as known at 1", x.judge(0, 1, 8, 1), 2);
    }
}
