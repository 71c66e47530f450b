/** The boundary cases of the document's sentences on MERCHANTS, PRICE, WORTH and WAYS, and of promises 8, 9, 22 and 23. */
public final class EdgesOfMerchants {
    private static final String NOUGHTS = " 0 0 0 0 0 0 0 0 0 0 0 0";
    private static final String PAN = "pan s at p0 makes 99 99 99 99 99 99 99 99 99 99 99 99 serves 0;";
    // PRICE is always 50 where nothing is wanted.
    private static final String TOWN = "town t at p0 of 0 wants 0 price 50 grain 999 cost 1;";
    private static final String FORT = "fort f at p0 eats 0 store 0;";

    public static void main(String[] args) {
        merchantsCoins();
        sixMerchants();
        merchantEndsRun();
        costsInRange();
        costsEndRun();
        costsAtFirst();
        price();
        priceOfNothingWanted();
        worthOfWay();
        worthOfWaiting();
        worthWithoutTown();
        worthByFirstTown();
        worthBelowZero();
        bestPan();
        stay();
        carryAsManyAs();
        carryWithoutWay();
        carryGains();
        farmOfTwelveMonths();
        farmsOfTwo();
        farmOfOneSack();
        farmAsManyAs();
        foundIfCoinsDo();
        foundGainsCut();
        foundOnce();
        buyAsManyAs();
        buyIfCoinAboveZero();
        noWayWithoutBestPan();
        likeOnes();
        wayOfFurtherMonth();
        wayOfOneBehindAnother();
        wayNone();
        worthNone();
        Check.done();
    }

    private static void merchantsCoins() {
        Check.sentence("8: A MERCHANT: a number; NONE, doing nothing, if it can't be (COINS 0 .. 30000)");
        SaltOffice x = new SaltOffice();
        int[] wrong = {-1, 30001, Integer.MIN_VALUE, Integer.MAX_VALUE};
        for (int coins : wrong) {
            Check.due("merchant(" + coins + ")", x.merchant(coins), -1);
            Check.due("about(4)", x.about(4), 0);
        }
        Check.due("merchant(0)", x.merchant(0), 0);
        Check.due("merchant(30000)", x.merchant(30000), 1);
        x.run(0, 1, 0);
        Check.due("book(0, 0, 0)", x.book(0, 0, 0), 0);
        Check.due("book(1, 0, 0)", x.book(1, 0, 0), 30000);
    }

    private static void sixMerchants() {
        Check.sentence("8: NONE, doing nothing, if .. there are 6.");
        SaltOffice x = new SaltOffice();
        for (int i = 0; i < 6; i++) {
            Check.due("merchant " + i, x.merchant(i + 1), i);
            Check.due("about(4)", x.about(4), i + 1);
        }
        x.run(0, 2, 0);
        for (int i = 0; i < 3; i++) {
            Check.due("a seventh", x.merchant(7), -1);
        }
        Check.due("about(4)", x.about(4), 6);
        Check.due("what was run stays", x.ran(10), 2);
        Check.due("the sixth's coins", x.book(5, 1, 0), 6);
        Check.due("a seventh's book", x.book(6, 1, 0), -1);
    }

    private static void merchantEndsRun() {
        Check.sentence("8: A MERCHANT (what was run is none then)");
        SaltOffice x = new SaltOffice();
        x.run(0, 2, 0);
        x.merchant(-1);
        Check.due("a refused one", x.ran(10), 2);
        x.merchant(30001);
        Check.due("a refused one", x.ran(10), 2);
        x.merchant(5);
        Check.due("ran(10)", x.ran(10), -1);
    }

    private static void costsInRange() {
        Check.sentence("9: true; false, doing nothing, if one can't be. (HAUL 0 .. 99, LOAD 1 .. 50, PATIENCE 0 .. 99, FARM 0 .. 9999, 0 .. 999)");
        int[] least = {0, 1, 0, 0, 0};
        int[] most = {99, 50, 99, 9999, 999};
        SaltOffice x = new SaltOffice();
        for (int i = 0; i < 5; i++) {
            int[] wrong = {least[i] - 1, most[i] + 1, Integer.MIN_VALUE, Integer.MAX_VALUE};
            for (int w : wrong) {
                x.run(0, 1, 0);
                Check.due("cost " + i + " of " + w, costs(x, i, w), false);
                Check.due("doing nothing", x.ran(10), 1);
            }
            Check.due("cost " + i + " of " + least[i], costs(x, i, least[i]), true);
            Check.due("cost " + i + " of " + most[i], costs(x, i, most[i]), true);
        }
        Check.due("all at their least", x.costs(0, 1, 0, 0, 0), true);
        Check.due("all at their most", x.costs(99, 50, 99, 9999, 999), true);
        costsRefusedKeepAll();
    }

    private static boolean costs(SaltOffice x, int which, int what) {
        int[] c = {1, 5, 1, 500, 20};
        c[which] = what;
        return x.costs(c[0], c[1], c[2], c[3], c[4]);
    }

    private static void costsRefusedKeepAll() {
        // Each call has four costs that can be, and one that can't: none of the four may be taken.
        SaltOffice x = Check.office("road p0 p1 30;" + FORT + PAN.replace("at p0", "at p1") + TOWN, "rate 9;", 30000);
        int[][] wrong = {{100, 50, 0, 0, 0}, {99, 51, 0, 0, 0}, {99, 50, 100, 0, 0}, {99, 50, 0, 10000, 0}, {99, 50, 0, 0, 1000}};
        x.run(0, 0, 0);
        long worth = x.worth(0);
        long gain = x.way(0, 4);
        Check.due("worth at first: 30 days * 1 / 10, a MONTH of the way", worth, 50 - 3 - 1);
        for (int[] w : wrong) {
            Check.due("costs", x.costs(w[0], w[1], w[2], w[3], w[4]), false);
            x.run(0, 0, 0);
            Check.due("HAUL and PATIENCE stay", x.worth(0), worth);
            Check.due("LOAD stays", x.way(0, 3), 5);
            Check.due("all stay", x.way(0, 4), gain);
        }
    }

    private static void costsEndRun() {
        Check.sentence("9: HAUL, LOAD, PATIENCE, FARM (.. what was run is none then): true");
        SaltOffice x = new SaltOffice();
        x.run(0, 2, 0);
        Check.due("the costs of before", x.costs(1, 5, 1, 500, 20), true);
        Check.due("ran(10)", x.ran(10), -1);
    }

    private static void costsAtFirst() {
        Check.sentence("HAUL (1 at first); LOAD (5 at first); PATIENCE (1 at first); FARM (500 at first), coins a MONTH for ten grain of it (20 at first)");
        String land = "road p0 p1 30;" + FORT + PAN.replace("at p0", "at p1") + TOWN;
        String[] reforms = {"rate 9;", "rate 9*(days=0);", "coin 1;most 99;"};
        for (String reform : reforms) {
            SaltOffice x = Check.office(land, reform, 3000);
            SaltOffice y = Check.office(land, reform, 3000);
            y.costs(1, 5, 1, 500, 20);
            x.run(0, 30, 0);
            y.run(0, 30, 0);
            for (int m = 0; m < 30; m++) {
                Check.due("book(0, " + m + ", 0)", x.book(0, m, 0), y.book(0, m, 0));
                Check.due("book(0, " + m + ", 2)", x.book(0, m, 2), y.book(0, m, 2));
            }
            Check.due("worth(0)", x.worth(0), y.worth(0));
        }
        SaltOffice z = Check.office(FORT + PAN + TOWN.replace("grain 999", "grain 0"), "rate 2;", 500);
        z.run(0, 0, 0);
        Check.due("founding by 500 and 20", z.way(0, 4), (24 * (2 * 50 - 20) - 500) / 24);
    }

    /** PRICE behind MONTH 2 of a TOWN with so many sacks in stock then, which wants w: they come in MONTH 2, w are used. */
    private static void price(int w, int c, int stock, long want) {
        int sacks = stock + w;
        SaltOffice x = Check.office("pan s at p0 makes 999 999" + Check.times(" 0", 10) + " serves 0;town t at p0 of 0 wants " + w + " price " + c
            + " grain 0 cost 1;", "coin (month=0);most 9999;", sacks / 10 * 10);
        x.costs(0, 50, 0, 9999, 999);
        x.run(0, 3, 0);
        Check.due("stock", x.town(0, 2, 0), stock);
        Check.due("PRICE with stock " + stock + ", wants " + w + ", price " + c, x.town(0, 2, 1), want);
        Check.due("WORTH by it", x.worth(0), want);
    }

    private static void price() {
        Check.sentence("PRICE of a TOWN: c * (3 * w - s) / w (cut towards 0), no less than c / 4 (cut)");
        price(10, 100, 0, 300);
        price(10, 100, 10, 200);
        price(10, 100, 20, 100);
        // 25 at least: from 27.5 on.
        price(5, 100, 5, 200);
        price(8, 100, 22, 25);
        price(40, 100, 110, 25);
        price(41, 100, 109, 100 * 14 / 41);
        price(39, 100, 111, 25);
        price(10, 100, 30, 25);
        price(10, 100, 40, 25);
        price(10, 999, 490, 249);
        // Cut: 7 * (21 - 3) / 7, 10 * (21 - 13) / 7, and a quarter of 7 and of 3.
        price(7, 7, 3, 18);
        price(7, 10, 13, 11);
        price(10, 7, 40, 1);
        price(10, 3, 40, 0);
        price(1, 4, 9, 1);
    }

    private static void priceOfNothingWanted() {
        Check.sentence("PRICE of a TOWN: .. c if w is 0");
        SaltOffice x = Check.office("pan s at p0 makes 999 999" + Check.times(" 0", 10) + " serves 0;town t at p0 of 0 wants 0 price 50 grain 0 cost 1;",
            "coin (month=0);most 9999;", 100);
        x.costs(0, 50, 0, 9999, 999);
        x.run(0, 3, 0);
        Check.due("stock", x.town(0, 2, 0), 100);
        Check.due("town(0, 0, 1)", x.town(0, 0, 1), 50);
        Check.due("town(0, 2, 1)", x.town(0, 2, 1), 50);
        Check.due("sold at it", x.book(0, 2, 0), 5000);
    }

    private static long worth(int days, int haul, int patience, String tax) {
        SaltOffice x = Check.office("road p0 p1 " + days + ";" + PAN + TOWN.replace("at p0", "at p1"), tax);
        x.costs(haul, 1, patience, 0, 0);
        x.run(0, 0, 0);
        return x.worth(0);
    }

    private static void worthOfWay() {
        Check.sentence("WORTH: PRICE less tax, less DAYS * HAUL / 10 (cut), less PATIENCE * (MONTHS of the way ..)");
        Check.due("9 days at 1", worth(9, 1, 0, ""), 50);
        Check.due("10 days at 1", worth(10, 1, 0, ""), 49);
        Check.due("19 days at 1", worth(19, 1, 0, ""), 49);
        Check.due("7 days at 7: 49", worth(7, 7, 0, ""), 46);
        Check.due("90 days at 99: 8910", worth(90, 99, 0, ""), 50 - 891);
        Check.due("90 days at 0", worth(90, 0, 0, ""), 50);
        Check.due("30 days: a MONTH", worth(30, 0, 7, ""), 43);
        Check.due("31 days: two MONTHS", worth(31, 0, 7, ""), 36);
        Check.due("tax 3", worth(9, 1, 0, "tax 3;"), 47);
        Check.due("tax 9999", worth(90, 99, 99, "tax 9999;"), 50 - 9999 - 891 - 3 * 99);
    }

    /** WORTH of a sack at a PAN where so many wait, by a PATIENCE of 7. */
    private static long worthWith(String makes, int waiting) {
        SaltOffice x = Check.office("pan s at p0 makes" + makes + " serves 0;" + TOWN, "coin (month=0);most 9999;", waiting);
        x.costs(0, 50, 7, 0, 0);
        x.run(0, 1, 0);
        Check.due("sacks that wait", x.pan(0, 0, 1), waiting);
        return x.worth(0);
    }

    private static void worthOfWaiting() {
        Check.sentence("WORTH: .. sacks that wait at the PAN / a) (cut), a being the twelfth part of what the PAN makes in its twelve MONTHS (cut, 1 at least)");
        String elevens = Check.times(" 0", 11);
        Check.due("makes 0: a is 1", worthWith(NOUGHTS, 10), 50 - 7 * 10);
        Check.due("makes 11: a is 1", worthWith(elevens + " 11", 10), 50 - 7 * 10);
        Check.due("makes 23: a is 1", worthWith(elevens + " 23", 10), 50 - 7 * 10);
        Check.due("makes 24: a is 2", worthWith(elevens + " 24", 10), 50 - 7 * 5);
        Check.due("makes 120: a is 10", worthWith(elevens + " 120", 10), 50 - 7);
        Check.due("makes 131: a is 10", worthWith(elevens + " 131", 10), 50 - 7);
        // Taken as the document's words have it most plainly: the MONTHS that sacks wait are whole ones (NOTES.md).
        Check.due("makes 132: a is 11", worthWith(elevens + " 132", 10), 50);
        Check.due("makes 999: a is 83", worthWith(elevens + " 999", 80), 50);
        Check.due("makes 999: a is 83", worthWith(elevens + " 999", 90), 43);
        Check.due("none waits", worthWith(NOUGHTS, 0), 50);
    }

    private static void worthWithoutTown() {
        Check.sentence("A sack's WORTH from a PAN: the greatest, over TOWNS of DISTRICTS it serves to which there is a way; none without one");
        none("no TOWN", PAN);
        none("of another DISTRICT", PAN + TOWN.replace("of 0", "of 1"));
        none("no way", PAN + TOWN.replace("at p0", "at p1"));
        SaltOffice x = Check.office(PAN.replace("serves 0", "serves 4 2") + TOWN.replace("of 0", "of 2"), "");
        x.run(0, 0, 0);
        Check.due("of a DISTRICT that is told second", x.worth(0), 50);
        // The dearest TOWN does not count where there is no way, or where it isn't served.
        SaltOffice y = Check.office("road p0 p1 1;" + PAN + TOWN + TOWN.replace("town t at p0 of 0", "town u at p1 of 1").replace("price 50", "price 900")
            + TOWN.replace("town t at p0", "town v at p2").replace("price 50", "price 900"), "");
        y.run(0, 0, 0);
        Check.due("neither of both", y.worth(0), 50);
    }

    private static void none(String what, String land) {
        SaltOffice x = Check.office(land, "coin 1;most 99;", 1000);
        x.run(0, 1, 0);
        Check.due("worth: " + what, x.worth(0), Check.NO_WORTH);
        Check.due("way: " + what, x.way(0, 0), 0);
        Check.due("PAPERS: " + what, x.run(0, 1, 0), 0);
    }

    private static void worthByFirstTown() {
        Check.sentence("WORTH: .. by the first TOWN of like ones");
        // t and u are alike to begin with, v is one less.
        SaltOffice x = Check.office(PAN + "town v at p0 of 0 wants 0 price 49 grain 0 cost 1;" + TOWN + TOWN.replace("town t", "town u"),
            "coin (month=0);most 50;", 50);
        x.costs(0, 50, 0, 0, 999);
        x.run(0, 3, 0);
        Check.due("v", x.town(0, 2, 0), 0);
        Check.due("t", x.town(1, 2, 0), 50);
        Check.due("u", x.town(2, 2, 0), 0);
        // A dearer one that is just as far above as the way costs is like, and the first of both gets it.
        SaltOffice y = Check.office("road p0 p1 10;" + PAN + TOWN.replace("at p0", "at p1").replace("price 50", "price 51") + TOWN.replace("town t", "town u"),
            "coin (month=0);most 50;", 50);
        y.costs(1, 50, 0, 0, 999);
        y.run(0, 3, 0);
        Check.due("the first, far off", y.town(0, 2, 0), 50);
        Check.due("the second", y.town(1, 2, 0), 0);
    }

    private static void worthBelowZero() {
        Check.sentence("(It may be below 0.)");
        Check.due("worth", worth(90, 99, 0, ""), -841);
        SaltOffice x = Check.office(PAN + TOWN, "tax 50;coin 1;most 99;", 1000);
        x.run(0, 1, 0);
        Check.due("worth 0", x.worth(0), 0);
        Check.reform(x, 0, "tax 51;coin 1;most 99;");
        x.run(0, 1, 0);
        Check.due("worth -1", x.worth(0), -1);
        Check.due("way", x.way(0, 0), 0);
        // It is below NONE, and is not like none.
        SaltOffice y = Check.office(PAN + TOWN, "tax 9999;", 1000);
        y.run(0, 0, 0);
        Check.due("worth -9949", y.worth(0), -9949);
    }

    private static void bestPan() {
        Check.sentence("Its BEST PAN is the first of the greatest WORTH of all PANS.");
        String second = PAN.replace("pan s", "pan r");
        String third = PAN.replace("pan s", "pan q");
        Check.due("of like ones the first", panBought(PAN + second + third + TOWN), 0);
        Check.due("one without WORTH ahead", panBought(PAN.replace("serves 0", "serves 1") + second + third + TOWN), 1);
        Check.due("the greatest, told last", panBought("road p0 p1 10;" + PAN + second + third.replace("at p0", "at p1") + TOWN
            + TOWN.replace("town t at p0", "town u at p1").replace("price 50", "price 52")), 2);
        // Where all are below 0 the greatest of them is BEST: way gains nothing by it.
        SaltOffice x = Check.office(PAN + second + TOWN, "tax 60;coin 1;most 99;rate 1;", 1000);
        x.run(0, 0, 0);
        Check.due("below 0", x.way(0, 0), 0);
    }

    private static int panBought(String land) {
        SaltOffice x = Check.office(land, "coin 1;most 99;", 10);
        x.costs(1, 1, 0, 0, 999);
        x.run(0, 1, 0);
        return x.paper(0, 1);
    }

    private static void stay() {
        Check.sentence("0 stay: 0");
        SaltOffice x = Check.office(PAN + TOWN, "", 1000);
        x.run(0, 2, 0);
        long[] want = {0, -1, -1, 0, 0};
        for (int what = 0; what < 5; what++) {
            Check.due("way(0, " + what + ")", x.way(0, what), want[what]);
        }
        Check.due("book(0, 1, 0)", x.book(0, 1, 0), 1000);
        Check.due("book(0, 1, 1)", x.book(0, 1, 1), 0);
        Check.due("book(0, 1, 2)", x.book(0, 1, 2), 0);
    }

    /** How many tens are carried from a TOWN of so much grain, where one costs 10. */
    private static void carry(int load, int grain, int coins, int n) {
        SaltOffice x = Check.office(FORT + PAN + TOWN.replace("grain 999", "grain " + grain), "rate 1;", coins);
        x.costs(0, load, 0, 9999, 999);
        x.run(0, 1, 0);
        String what = "load " + load + ", grain " + grain + ", coins " + coins;
        Check.due("way: " + what, x.book(0, 0, 1), n == 0 ? 0 : 1);
        Check.due("gain: " + what, x.book(0, 0, 2), n * (50 - 10));
        Check.due("coins: " + what, x.book(0, 0, 0), coins - 10 * n);
        x.run(0, 0, 0);
        Check.due("n: " + what, x.way(0, 3), n);
    }

    private static void carryAsManyAs() {
        Check.sentence("1 carry: .. n tens of grain: as many as LOAD, the grain left in g this MONTH / 10, and their COINS allow");
        carry(1, 999, 30000, 1);
        carry(5, 999, 30000, 5);
        carry(50, 999, 30000, 50);
        carry(50, 0, 30000, 0);
        carry(50, 9, 30000, 0);
        carry(50, 10, 30000, 1);
        carry(50, 19, 30000, 1);
        carry(50, 20, 30000, 2);
        carry(50, 499, 30000, 49);
        carry(50, 500, 30000, 50);
        carry(50, 999, 0, 0);
        carry(50, 999, 9, 0);
        carry(50, 999, 10, 1);
        carry(50, 999, 19, 1);
        carry(50, 999, 499, 49);
        carry(50, 999, 500, 50);
        Check.sentence("the grain left in g this MONTH");
        SaltOffice x = Check.office(FORT + PAN + TOWN.replace("grain 999", "grain 59"), "rate 1;", 30, 1000, 1000);
        x.costs(0, 4, 0, 9999, 999);
        x.run(0, 2, 0);
        Check.due("the first carries three", x.book(0, 0, 2), 3 * 40);
        Check.due("for the second two are left", x.book(1, 0, 2), 2 * 40);
        Check.due("for the third none", x.book(2, 0, 1), 0);
        Check.due("in the next MONTH there is all again", x.book(1, 1, 2), 4 * 40);
    }

    private static void carryWithoutWay() {
        Check.sentence("1 carry: from a TOWN g to a FORT f to which there is a way");
        SaltOffice x = Check.office(FORT.replace("at p0", "at p9") + PAN + TOWN, "rate 9;", 1000);
        x.costs(0, 5, 0, 9999, 999);
        x.run(0, 0, 0);
        Check.due("no way to the FORT", x.way(0, 0), 0);
        SaltOffice y = Check.office("road p0 p1 5;" + FORT.replace("at p0", "at p9") + FORT.replace("fort f at p0", "fort g at p1") + PAN + TOWN, "rate 9;", 1000);
        y.costs(99, 5, 0, 9999, 999);
        y.run(0, 0, 0);
        // At HAUL 99 a way of no DAYS at all would be cheaper than none.
        Check.due("the other FORT", y.way(0, 1), -1);
        y.costs(1, 5, 0, 9999, 999);
        y.run(0, 0, 0);
        Check.due("the other FORT, for less", y.way(0, 1), 1);
        Check.due("its gain", y.way(0, 4), 5 * (9 * 50 - 15));
    }

    private static void carryGains() {
        Check.sentence("each costs 10 * cost of g + DAYS * HAUL: GAIN n * (rate * WORTH - what one costs)");
        SaltOffice x = Check.office("road p0 p1 7;" + FORT.replace("at p0", "at p1") + PAN + TOWN.replace("cost 1", "cost 99"), "rate 50;", 3025);
        x.costs(3, 5, 0, 9999, 999);
        x.run(0, 0, 0);
        // One costs 990 + 21; 3025 coins allow two.
        Check.due("n", x.way(0, 3), 2);
        Check.due("gain", x.way(0, 4), 2 * (50 * 50 - 1011));
        // A gain of 0 is like staying.
        SaltOffice y = Check.office(FORT + PAN + TOWN.replace("cost 1", "cost 5"), "rate 1;", 1000);
        y.costs(0, 5, 0, 9999, 999);
        y.run(0, 0, 0);
        Check.due("rate * WORTH is what one costs", y.way(0, 0), 0);
        Check.reform(y, 0, "rate 1;tax 0 - 1;");
        y.run(0, 0, 0);
        Check.due("a tax below 0 is none", y.way(0, 0), 0);
        SaltOffice z = Check.office(FORT + PAN + TOWN.replace("cost 1", "cost 5").replace("price 50", "price 51"), "rate 1;", 1000);
        z.costs(0, 5, 0, 9999, 999);
        z.run(0, 0, 0);
        Check.due("one above", z.way(0, 0), 1);
        Check.due("its gain", z.way(0, 4), 5);
    }

    private static void farmOfTwelveMonths() {
        Check.sentence("2 farm (at each FORT where they have one that is 12 MONTHS old or more)");
        SaltOffice x = Check.office(FORT + PAN + TOWN.replace("grain 999", "grain 0"), "rate 1*(year+month>2);", 1000);
        x.costs(0, 5, 0, 10, 1);
        x.run(0, 30, 0);
        Check.due("nothing to gain in MONTH 2", x.book(0, 2, 1), 0);
        Check.due("founded in MONTH 3", x.book(0, 3, 1), 3);
        for (int m = 4; m < 15; m++) {
            Check.due("not 12 MONTHS old in MONTH " + m, x.book(0, m, 1), 0);
        }
        for (int m = 15; m < 24; m++) {
            Check.due("12 MONTHS old or more in MONTH " + m, x.book(0, m, 1), 2);
        }
        x.run(0, 14, 0);
        Check.due("in the further MONTH 14", x.way(0, 0), 0);
        x.run(0, 15, 0);
        Check.due("in the further MONTH 15", x.way(0, 0), 2);
        Check.due("its FORT", x.way(0, 1), 0);
        Check.due("its TOWN", x.way(0, 2), -1);
        Check.due("its n", x.way(0, 3), 5);
        Check.due("its gain", x.way(0, 4), 5 * 49);
    }

    private static void farmsOfTwo() {
        Check.sentence("2 farm (at each FORT where they have one that is 12 MONTHS old or more)");
        // 0 founds in MONTH 0; 1 has no coins until 2 dies, and founds in MONTH 3.
        SaltOffice x = Check.office(FORT + PAN + TOWN.replace("grain 999", "grain 0"), "rate 1;", 100, 0, 100);
        x.costs(0, 1, 0, 10, 1);
        x.dead(2, 3, 1);
        x.run(0, 17, 0);
        for (int m = 0; m < 17; m++) {
            Check.due("0 in MONTH " + m, x.book(0, m, 1), m == 0 ? 3 : m < 12 ? 0 : 2);
            Check.due("1 in MONTH " + m, x.book(1, m, 1), m == 3 ? 3 : m < 15 ? 0 : 2);
        }
    }

    private static void farmOfOneSack() {
        Check.sentence("(e) .. PAPERS for it .. are given at once; (b) none for 0 sacks");
        SaltOffice x = Check.office(FORT + PAN + TOWN.replace("grain 999", "grain 0"), "rate 1;", 100);
        x.costs(0, 1, 0, 10, 1);
        Check.due("PAPERS", x.run(0, 13, 0), 1);
        Check.due("for one sack", x.paper(0, 2), 1);
        // A rate of 0 would gain less than nothing: no grain, no PAPER.
        Check.reform(x, 1, "rate year<1;");
        Check.due("PAPERS by a rate of 0", x.run(1, 20, 0), 0);
        Check.due("grain", x.fort(0, 19, 0), 0);
        // For nothing it would gain nothing: like staying.
        x.costs(0, 1, 0, 0, 0);
        Check.due("PAPERS by a rate of 0, for nothing", x.run(1, 20, 0), 0);
        Check.due("stay", x.book(0, 12, 1), 0);
        Check.due("grain", x.fort(0, 19, 0), 0);
    }

    /** What one with so many coins behind founding farms in MONTH 12, where ten grain cost so much. */
    private static void farm(int load, int month, int coins, int n) {
        SaltOffice x = Check.office(FORT + PAN + TOWN.replace("grain 999", "grain 0"), "rate 40;", 100 + coins);
        x.costs(0, load, 0, 100, month);
        x.run(0, 13, 0);
        String what = "load " + load + ", a MONTH " + month + ", coins " + coins;
        Check.due("founded: " + what, x.book(0, 0, 1), 3);
        Check.due("way: " + what, x.book(0, 12, 1), n == 0 ? 0 : 2);
        Check.due("gain: " + what, x.book(0, 12, 2), (long) n * (2000 - month));
        Check.due("coins: " + what, x.book(0, 12, 0), coins - n * month);
        Check.due("grain: " + what, x.fort(0, 12, 0), 10 * n);
        Check.due("sacks: " + what, x.pan(0, 12, 1), 40 * n);
    }

    private static void farmAsManyAs() {
        Check.sentence("2 farm: n = as many tens as LOAD and COINS allow, one costs FARM's coins a MONTH");
        farm(1, 20, 1000, 1);
        farm(50, 20, 1000, 50);
        farm(50, 20, 999, 49);
        farm(50, 20, 20, 1);
        farm(50, 20, 19, 0);
        farm(50, 20, 0, 0);
        farm(5, 999, 998, 0);
        farm(5, 999, 999, 1);
        farm(5, 1, 3, 3);
        farm(5, 1, 0, 0);
        Check.sentence("what costs nothing is bound by the others alone");
        farm(50, 0, 0, 50);
        farm(1, 0, 0, 1);
    }

    private static void foundIfCoinsDo() {
        Check.sentence("3 found a FARM at a FORT where they have none, if their COINS do");
        int[][] cases = {{0, 0, 3}, {1, 0, 0}, {500, 499, 0}, {500, 500, 3}, {500, 501, 3}, {9999, 9998, 0}, {9999, 9999, 3}};
        for (int[] c : cases) {
            SaltOffice x = Check.office(FORT + PAN + TOWN.replace("grain 999", "grain 0"), "rate 100;", c[1]);
            x.costs(0, 5, 0, c[0], 999);
            x.run(0, 1, 0);
            Check.due("founding for " + c[0] + " with " + c[1], x.book(0, 0, 1), c[2]);
            Check.due("coins", x.book(0, 0, 0), c[2] == 3 ? c[1] - c[0] : c[1]);
            Check.due("PAPERS", x.run(0, 1, 0), 0);
        }
    }

    private static void found(int price, int month, int founding, int way, long gain) {
        SaltOffice x = Check.office(FORT + PAN + TOWN.replace("grain 999", "grain 0").replace("price 50", "price " + price), "rate 1;", 30000);
        x.costs(0, 50, 0, founding, month);
        x.run(0, 0, 0);
        String what = "price " + price + ", month " + month + ", founding " + founding;
        Check.due("way: " + what, x.way(0, 0), way);
        Check.due("gain: " + what, x.way(0, 4), gain);
        Check.due("n: " + what, x.way(0, 3), way == 3 ? 1 : 0);
    }

    private static void foundGainsCut() {
        Check.sentence("3 found: GAIN: 24 times what ten grain would gain there (as in 2) less what founding costs, / 24 (cut)");
        found(10, 5, 0, 3, 5);
        found(10, 5, 1, 3, 4);
        found(10, 5, 23, 3, 4);
        found(10, 5, 24, 3, 4);
        found(10, 5, 25, 3, 3);
        found(10, 5, 96, 3, 1);
        // 24 * 5 - 97 = 23, of which the 24th part is nothing: like staying.
        found(10, 5, 97, 0, 0);
        found(10, 5, 120, 0, 0);
        found(10, 5, 121, 0, 0);
        found(10, 10, 0, 0, 0);
        found(10, 11, 0, 0, 0);
        found(999, 0, 9999, 3, (24 * 999 - 9999) / 24);
    }

    private static void foundOnce() {
        Check.sentence("3 found a FARM at a FORT where they have none");
        SaltOffice x = Check.office(FORT + FORT.replace("fort f", "fort g") + PAN + TOWN.replace("grain 999", "grain 0"), "rate 1;", 1000, 1000);
        x.costs(0, 5, 0, 10, 1);
        x.run(0, 4, 0);
        for (int i = 0; i < 2; i++) {
            Check.due("the first FORT", x.book(i, 0, 1), 3);
            Check.due("the second FORT", x.book(i, 1, 1), 3);
            Check.due("then no more", x.book(i, 2, 1), 0);
            Check.due("coins", x.book(i, 3, 0), 980);
        }
        x.run(0, 1, 0);
        Check.due("the FORT of the second", x.way(0, 1), 1);
        // The farm at the first FORT is ripe a MONTH ahead of the second; of like ones the first FORT.
        x.run(0, 12, 0);
        Check.due("way in MONTH 12", x.way(0, 0), 2);
        x.run(0, 13, 0);
        Check.due("the first of like FORTS", x.way(0, 1), 0);
    }

    private static void buy(int load, int most, int coin, int coins, int n) {
        SaltOffice x = Check.office(PAN + TOWN, "coin " + coin + ";most " + most + ";", coins);
        x.costs(0, load, 0, 9999, 999);
        x.run(0, 1, 0);
        String what = "load " + load + ", most " + most + ", coin " + coin + ", coins " + coins;
        Check.due("way: " + what, x.book(0, 0, 1), n == 0 ? 0 : 4);
        Check.due("gain: " + what, x.book(0, 0, 2), 10L * n * (50 - coin));
        Check.due("coins: " + what, x.book(0, 0, 0), coins - 10 * n * coin);
        Check.due("state: " + what, x.ran(2), 10 * n * coin);
        Check.due("sacks: " + what, x.ran(7), 10 * n);
        x.run(0, 0, 0);
        Check.due("n: " + what, x.way(0, 3), n);
    }

    private static void buyAsManyAs() {
        Check.sentence("4 buy: n tens of sacks: as many as LOAD, most left this MONTH / 10, and COINS allow");
        buy(1, 9999, 1, 30000, 1);
        buy(50, 9999, 1, 30000, 50);
        buy(50, 0, 1, 30000, 0);
        buy(50, 9, 1, 30000, 0);
        buy(50, 10, 1, 30000, 1);
        buy(50, 19, 1, 30000, 1);
        buy(50, 499, 1, 30000, 49);
        buy(50, 500, 1, 30000, 50);
        buy(50, 9999, 7, 0, 0);
        buy(50, 9999, 7, 69, 0);
        buy(50, 9999, 7, 70, 1);
        buy(50, 9999, 7, 139, 1);
        buy(50, 9999, 7, 3499, 49);
        buy(50, 9999, 7, 3500, 50);
        Check.sentence("most left this MONTH");
        SaltOffice x = Check.office(PAN + TOWN, "coin 1;most 39;", 1000, 1000, 1000);
        x.costs(0, 2, 0, 9999, 999);
        x.run(0, 2, 0);
        Check.due("the first", x.paper(0, 2), 20);
        Check.due("the second: of 19 that are left", x.paper(1, 2), 10);
        Check.due("the third: of 9", x.book(2, 0, 1), 0);
        Check.due("in the next MONTH there is all again", x.paper(2, 2), 20);
    }

    private static void buyIfCoinAboveZero() {
        Check.sentence("4 buy: .. if coin is above 0: GAIN n * 10 * (WORTH - coin)");
        buy(5, 100, 0, 30000, 0);
        buy(5, 100, 1, 30000, 5);
        buy(5, 100, 49, 30000, 5);
        // Of nothing to gain, or less.
        buy(5, 100, 50, 30000, 0);
        buy(5, 100, 51, 30000, 0);
        SaltOffice x = Check.office(PAN + TOWN, "coin 0 - 1;most 100;", 1000);
        x.run(0, 1, 0);
        Check.due("coin below 0", x.book(0, 0, 1), 0);
    }

    private static void noWayWithoutBestPan() {
        Check.sentence("without a BEST PAN, or with n 0, there is no such way");
        String land = FORT + PAN.replace("serves 0", "serves 1") + TOWN;
        SaltOffice x = Check.office(land, "rate 9999;coin 1;most 9999;", 30000);
        x.costs(0, 50, 0, 0, 0);
        x.run(0, 20, 0);
        for (int m = 0; m < 20; m++) {
            Check.due("MONTH " + m, x.book(0, m, 1), 0);
        }
        Check.due("ran(2)", x.ran(2), 0);
        SaltOffice y = Check.office(FORT + TOWN, "rate 9999;coin 1;most 9999;", 30000);
        y.costs(0, 50, 0, 0, 0);
        Check.due("without a PAN", y.run(0, 20, 0), 0);
        Check.due("way", y.way(0, 0), 0);
    }

    private static void likeOnes() {
        Check.sentence("They take the WAY of the greatest GAIN; of like ones the least number, then the first by FORTS, then by TOWNS.");
        // Found gains 40 at each FORT, buying ten sacks 40.
        String forts = FORT + FORT.replace("fort f", "fort g");
        SaltOffice x = Check.office(forts + PAN + TOWN.replace("grain 999", "grain 0"), "rate 1;coin 46;most 10;", 1000);
        x.costs(0, 1, 0, 0, 10);
        x.run(0, 1, 0);
        Check.due("3 ahead of 4", x.book(0, 0, 1), 3);
        Check.due("then the second FORT", x.way(0, 1), 1);
        x.run(0, 2, 0);
        Check.due("4 when both are founded", x.way(0, 0), 4);
        x.run(0, 12, 0);
        Check.due("2 ahead of 4", x.way(0, 0), 2);
        Check.due("the first FORT", x.way(0, 1), 0);
        // Carrying one ten gains 40 as well: 1 ahead of 2, 3 and 4.
        SaltOffice y = Check.office(forts + PAN + TOWN + TOWN.replace("town t", "town u"), "rate 1;coin 46;most 10;", 1000);
        y.costs(0, 1, 0, 0, 10);
        y.run(0, 0, 0);
        Check.due("1 ahead of 3 and 4", y.way(0, 0), 1);
        Check.due("the first FORT", y.way(0, 1), 0);
        Check.due("the first TOWN", y.way(0, 2), 0);
        // A farm that is ripe: one ten of it gains 40, as carrying one does, and as founding another for nothing does.
        ripe(TOWN, 1);
        ripe(TOWN.replace("grain 999", "grain 0"), 2);
        // One FORT pays more: it is taken though told second, and there the first TOWN.
        SaltOffice z = Check.office(FORT + FORT.replace("fort f", "fort g").replace("store 0", "store 1") + PAN + TOWN.replace("cost 1", "cost 2")
            + TOWN.replace("town t", "town u") + TOWN.replace("town t", "town v"), "rate 1 + store;", 1000);
        z.costs(0, 1, 0, 9999, 10);
        z.run(0, 0, 0);
        Check.due("the greatest: FORT", z.way(0, 1), 1);
        Check.due("the greatest: TOWN", z.way(0, 2), 1);
        // By FORTS ahead of TOWNS: the first FORT with the second TOWN is like the second FORT with the first.
        SaltOffice w = Check.office("road p0 p1 1;" + FORT + FORT.replace("fort f at p0", "fort g at p1") + PAN + TOWN.replace("at p0", "at p1")
            + TOWN.replace("town t", "town u"), "rate 1*(days=0);", 1000);
        w.costs(0, 1, 0, 9999, 10);
        w.run(0, 0, 0);
        Check.due("the first FORT", w.way(0, 1), 0);
        Check.due("the second TOWN", w.way(0, 2), 1);
    }

    /** The WAY in MONTH 12 of one who founded at the first FORT in MONTH 0, and has no coins until then. */
    private static void ripe(String town, int way) {
        SaltOffice x = Check.office(FORT + FORT.replace("fort f", "fort g") + PAN + town, "rate (month=0);", 0, 100);
        x.costs(0, 1, 0, 0, 10);
        x.dead(1, 12, 0);
        x.run(0, 13, 0);
        Check.due("founded in MONTH 0", x.book(0, 0, 1), 3);
        Check.due("the least number of like ones", x.book(0, 12, 1), way);
        Check.due("its gain", x.book(0, 12, 2), 40);
    }

    private static void wayOfFurtherMonth() {
        Check.sentence("22: Of a MERCHANT's WAY if (e) of a further MONTH came now, at the end of the RUN (by the REFORM as it was run; with all grain of TOWNS, coin, most, tax told anew)");
        SaltOffice x = Check.office(FORT + PAN + TOWN.replace("grain 999", "grain 10"), "rate (year*12+month=239)+2*(year=20);", 100, 100);
        x.costs(0, 1, 0, 9999, 999);
        x.run(0, 239, 0);
        Check.due("way of MONTH 239: gain", x.way(1, 4), 40);
        x.run(0, 240, 0);
        Check.due("the first carried in MONTH 239", x.book(0, 239, 1), 1);
        Check.due("none was left for the second", x.book(1, 239, 1), 0);
        Check.due("way of a MONTH 240: gain, with all grain", x.way(1, 4), 2 * 50 - 10);
        Check.due("n", x.way(1, 3), 1);
        // coin, most and tax of the further MONTH, by its number and what waits and is made at the end.
        SaltOffice y = Check.office(PAN + TOWN, "coin 1 + month;most 10 + waiting;tax made/100;", 10, 500);
        y.costs(0, 5, 0, 9999, 999);
        y.run(0, 1, 0);
        Check.due("in MONTH 0 the first bought all", y.book(1, 0, 1), 0);
        Check.due("coin 2, most 20: n", y.way(1, 3), 2);
        Check.due("its gain", y.way(1, 4), 20 * (50 - 2));
        y.run(0, 2, 0);
        // 99 + 99 - 10 = 188 are made.
        Check.due("worth by the tax told anew", y.worth(0), 49);
        // Asking does nothing.
        Check.due("asked again", y.worth(0), 49);
        Check.due("ran(7)", y.ran(7), 30 - 10);
        // By the REFORM as it was run.
        y.end(0);
        y.reform(0);
        Check.due("behind another REFORM: worth", y.worth(0), 49);
        Check.due("behind another REFORM: way", y.way(1, 0), 4);
        y.judge(0, 0, 5, 0);
        Check.due("behind a judge", y.way(1, 0), 4);
        // FACTS that are told later change nothing of it.
        y.dead(1, 0, -1);
        Check.due("behind a FACT", y.way(1, 0), 4);
    }

    private static void wayOfOneBehindAnother() {
        Check.sentence("22: 1: the FORT (NONE), 2: the TOWN (NONE), 3: n (0 for stay, 1 for found)");
        // Two have coins to buy ten sacks, the third for nothing at all.
        SaltOffice x = Check.office(FORT + PAN + TOWN, "rate 1;coin 1;most 10;", 20, 10, 0);
        x.costs(0, 2, 0, 9999, 999);
        x.run(0, 0, 0);
        long[][] want = {{4, -1, -1, 1, 10 * 49}, {4, -1, -1, 1, 10 * 49}, {0, -1, -1, 0, 0}};
        for (int round = 0; round < 2; round++) {
            for (int i = 0; i < 3; i++) {
                for (int what = 0; what < 5; what++) {
                    Check.due("way(" + i + ", " + what + ")", x.way(i, what), want[i][what]);
                }
            }
        }
        SaltOffice y = Check.office(FORT + FORT.replace("fort f", "fort g").replace("store 0", "store 1") + PAN + TOWN.replace("grain 999", "grain 0")
            + TOWN.replace("town t", "town u"), "rate store;", 0, 20);
        y.costs(0, 2, 0, 9999, 999);
        y.run(0, 0, 0);
        long[] carries = {1, 1, 1, 2, 80};
        long[] stays = {0, -1, -1, 0, 0};
        for (int round = 0; round < 2; round++) {
            for (int what = 0; what < 5; what++) {
                Check.due("one who carries: way(1, " + what + ")", y.way(1, what), carries[what]);
                Check.due("one who stays: way(0, " + what + ")", y.way(0, what), stays[what]);
            }
        }
    }

    private static void wayNone() {
        Check.sentence("22: NONE if there is none such, or DEAD by then.");
        SaltOffice x = Check.office(FORT + PAN + TOWN, "rate 1;", 100, 100);
        for (int what = -1; what < 6; what++) {
            Check.due("without a RUN", x.way(0, what), -1);
        }
        x.run(0, 3, 0);
        int[] wrong = {-1, 2, 6, Integer.MIN_VALUE, Integer.MAX_VALUE};
        for (int w : wrong) {
            Check.due("way(" + w + ", 0)", x.way(w, 0), -1);
        }
        int[] others = {-1, 5, Integer.MIN_VALUE, Integer.MAX_VALUE};
        for (int w : others) {
            Check.due("way(0, " + w + ")", x.way(0, w), -1);
        }
        x.dead(1, 4, -1);
        x.run(0, 3, 0);
        Check.due("DEAD a MONTH later", x.way(1, 0), 1);
        x.run(0, 5, 0);
        for (int what = 0; what < 5; what++) {
            Check.due("DEAD before: way(1, " + what + ")", x.way(1, what), -1);
        }
        // In a RUN of 4 MONTHS the further one is MONTH 4.
        x.run(0, 4, 0);
        Check.due("DEAD in the further MONTH", x.way(1, 0), -1);
        Check.due("the other", x.way(0, 0), 1);
    }

    private static void worthNone() {
        Check.sentence("23: -1000000000000 if there is none, or no such PAN, or no RUN.");
        SaltOffice x = Check.office(PAN + PAN.replace("pan s", "pan r").replace("serves 0", "serves 3") + TOWN, "");
        Check.due("no RUN", x.worth(0), Check.NO_WORTH);
        x.run(0, 1, 0);
        Check.due("worth(0)", x.worth(0), 50);
        Check.due("none", x.worth(1), Check.NO_WORTH);
        int[] wrong = {-1, 2, 3, Integer.MIN_VALUE, Integer.MAX_VALUE};
        for (int pan : wrong) {
            Check.due("no such PAN", x.worth(pan), Check.NO_WORTH);
        }
        x.land();
        Check.due("no RUN behind another LAND", x.worth(0), Check.NO_WORTH);
    }
}
