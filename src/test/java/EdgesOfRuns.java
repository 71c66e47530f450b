/** The boundary cases of the document's sentences on a RUN and its MONTHS, and of promises 15 to 21 and 24. */
public final class EdgesOfRuns {
    private static final String PAN = "pan s at p0 makes 99 99 99 99 99 99 99 99 99 99 99 99 serves 0;";
    private static final String TOWN = "town t at p0 of 0 wants 0 price 50 grain 999 cost 1;";
    private static final String FORT = "fort f at p0 eats 0 store 0;";

    public static void main(String[] args) {
        runRefused();
        runOfNoMonths();
        runOfMostMonths();
        runKnownAtAnyTime();
        runFromTheBeginning();
        runOfAFullLand();
        asManyOnTheirWayAsCanBe();
        ranNone();
        fortNone();
        panNone();
        townNone();
        bookNone();
        paperNone();
        makesAheadOfDrawing();
        comesAfterMonths();
        oneMonthAtLeast();
        sentFirstComesFirst();
        soldAtPriceAhead();
        soldNoLessThanZero();
        soldWithTaxOfThatMonth();
        paperAsPromised();
        drawsIfSaltEnough();
        drawsAsGiven();
        drawsPanByPan();
        paysAsFarAsCoinsGo();
        waitedMonths();
        fortsEat();
        townsUse();
        farmAtOnce();
        boughtAtOnce();
        merchantsByNumber();
        waysBehindUse();
        waysAheadOfSmuggling();
        smuggledAboveDays();
        smuggledATenth();
        smuggledByWants();
        smuggledCaught();
        smuggledByNumbers();
        smuggledOfUnlikeDistricts();
        judgeRefused();
        judgeKeepsRun();
        judgeByStarved();
        judgeByWaits();
        judgeByCoins();
        Check.done();
    }

    private static void runRefused() {
        Check.sentence("15: NONE, doing nothing, if one can't be (n 0 .. 240, a SHELF 0 .. 3)");
        SaltOffice x = Check.office(Check.LAND, "rate 20;", 1000);
        int[] shelves = {-1, 4, Integer.MIN_VALUE, Integer.MAX_VALUE};
        int[] months = {-1, 241, Integer.MIN_VALUE, Integer.MAX_VALUE};
        for (int shelf : shelves) {
            Check.due("run(" + shelf + ", 1, 0) on a new object", x.run(shelf, 1, 0), -1);
            Check.due("no RUN", x.ran(10), -1);
        }
        x.run(0, 4, 0);
        for (int shelf : shelves) {
            Check.due("run(" + shelf + ", 1, 0)", x.run(shelf, 1, 0), -1);
        }
        for (int n : months) {
            Check.due("run(0, " + n + ", 0)", x.run(0, n, 0), -1);
        }
        Check.due("the RUN of before", x.ran(10), 4);
        Check.due("its PAPERS", x.paper(1, 6), 3);
        Check.due("its WAY", x.way(0, 4), 2550);
        for (int shelf = 0; shelf < 4; shelf++) {
            Check.due("run(" + shelf + ", 1, 0)", x.run(shelf, 1, 0), 0);
        }
    }

    private static void runOfNoMonths() {
        Check.sentence("15: A RUN of n MONTHS (0 .. 240)");
        SaltOffice x = Check.office(Check.LAND, "rate 20;", 1000);
        x.run(0, 4, 0);
        Check.due("run(0, 0, 0)", x.run(0, 0, 0), 0);
        for (int what = 0; what <= 10; what++) {
            Check.due("ran(" + what + ")", x.ran(what), 0);
        }
        Check.due("fort(0, 0, 0)", x.fort(0, 0, 0), -1);
        Check.due("pan(0, 0, 0)", x.pan(0, 0, 0), -1);
        Check.due("town(0, 0, 0)", x.town(0, 0, 0), -1);
        Check.due("book(0, 0, 0)", x.book(0, 0, 0), -1);
        Check.due("paper(0, 0)", x.paper(0, 0), -1);
        Check.due("worth(0)", x.worth(0), 36);
        Check.due("way(0, 4)", x.way(0, 4), 3350);
    }

    private static void runOfMostMonths() {
        Check.sentence("15: A RUN of n MONTHS (0 .. 240)");
        SaltOffice x = Check.office(Check.LAND, "", 1000);
        Check.due("run(0, 240, 0)", x.run(0, 240, 0), 0);
        Check.due("ran(10)", x.ran(10), 240);
        Check.due("STARVED", x.ran(0), 20 * 240 - 100);
        Check.due("fort(0, 239, 1)", x.fort(0, 239, 1), 20);
        Check.due("fort(0, 240, 1)", x.fort(0, 240, 1), -1);
        Check.due("pan(0, 239, 0)", x.pan(0, 239, 0), 240 * 50);
        Check.due("town(0, 239, 1)", x.town(0, 239, 1), 36);
        Check.due("book(0, 239, 0)", x.book(0, 239, 0), 1000);
        Check.due("book(0, 240, 0)", x.book(0, 240, 0), -1);
    }

    private static void runKnownAtAnyTime() {
        Check.sentence("15: as known at k");
        SaltOffice x = Check.office(Check.LAND, "");
        x.weather(0, 0, 200);
        int[] times = {Integer.MIN_VALUE, -1, 0, 1, 100000, 100001, Integer.MAX_VALUE};
        for (int k : times) {
            Check.due("run(0, 1, " + k + ")", x.run(0, 1, k), 0);
            Check.due("salt", x.pan(0, 0, 0), k < 0 ? 50 : 100);
        }
    }

    private static void runFromTheBeginning() {
        Check.sentence("4: from the beginning: stores, empty TOWNS and PANS, no PAPERS, no FARMS");
        SaltOffice x = Check.office(FORT.replace("store 0", "store 7") + PAN + TOWN.replace("grain 999", "grain 0"), "rate 1*(year+month>0);coin 3;most 10;", 500);
        x.costs(0, 2, 0, 10, 1);
        x.run(0, 30, 0);
        long[] first = told(x);
        x.run(1, 3, 0);
        x.judge(0, 1, 20, 0);
        x.run(0, 30, 0);
        long[] second = told(x);
        for (int i = 0; i < first.length; i++) {
            Check.due("the same again: " + i, second[i], first[i]);
        }
        x.run(0, 1, 0);
        Check.due("fort(0, 0, 0)", x.fort(0, 0, 0), 7);
        Check.due("pan(0, 0, 0)", x.pan(0, 0, 0), 99);
        Check.due("town(0, 0, 0)", x.town(0, 0, 0), 0);
        Check.due("paper(0, 3)", x.paper(0, 3), 0);
        Check.due("paper(1, 3)", x.paper(1, 3), -1);
    }

    private static void runOfAFullLand() {
        Check.sentence("17 to 23, with 3 FORTS, 3 PANS, 5 TOWNS and 6 MERCHANTS: NONE if there is none such");
        String pan = " at p1 makes 30 30 30 30 30 30 30 30 30 30 30 30 serves 0 1 2 3 4;";
        StringBuilder land = new StringBuilder("road p0 p1 5;");
        for (char c = 'a'; c <= 'c'; c++) {
            land.append("fort f").append(c).append(" at p0 eats 9 store 9;pan s").append(c).append(pan);
        }
        for (int i = 0; i < 5; i++) {
            land.append("town t").append((char) ('a' + i)).append(" at p1 of ").append(i).append(" wants 9 price ").append(20 + 9 * i).append(" grain 40 cost 1;");
        }
        SaltOffice x = Check.office(land.toString(), "rate 5;class sacks>9;coin 30;most 40;tax 1;guard 9;", 900, 900, 900, 900, 900, 900);
        x.costs(1, 5, 1, 20, 5);
        Check.due("PAPERS", x.run(0, 40, 0) > 0, true);
        Check.due("fort(2, 39, 0)", x.fort(2, 39, 0) >= 0, true);
        Check.due("fort(3, 39, 0)", x.fort(3, 39, 0), -1);
        Check.due("pan(2, 39, 0)", x.pan(2, 39, 0) >= 0, true);
        Check.due("pan(3, 39, 0)", x.pan(3, 39, 0), -1);
        Check.due("town(4, 39, 0)", x.town(4, 39, 0) >= 0, true);
        Check.due("town(5, 39, 0)", x.town(5, 39, 0), -1);
        Check.due("book(5, 39, 0)", x.book(5, 39, 0) >= 0, true);
        Check.due("book(6, 39, 0)", x.book(6, 39, 0), -1);
        Check.due("way(5, 0)", x.way(5, 0) >= 0, true);
        Check.due("way(6, 0)", x.way(6, 0), -1);
        Check.due("worth(2)", x.worth(2) > -1000, true);
        Check.due("worth(3)", x.worth(3), Check.NO_WORTH);
        Check.due("weather(2, 0, 0)", x.weather(2, 0, 0), 0);
        Check.due("weather(3, 0, 0)", x.weather(3, 0, 0), -1);
        Check.due("dead(5, 0, 4)", x.dead(5, 0, 4), 1);
        Check.due("dead(4, 0, 6)", x.dead(4, 0, 6), -1);
        Check.due("dead(6, 0, 4)", x.dead(6, 0, 4), -1);
    }

    private static void asManyOnTheirWayAsCanBe() {
        Check.sentence("4: A RUN of n MONTHS (240 at most, by 6 MERCHANTS at most)");
        // Each of six carries a ten a MONTH, on the spot, and each PAPER for one sack draws as it is given.
        SaltOffice x = Check.office(FORT + PAN + TOWN, "rate 1;", 30000, 30000, 30000, 30000, 30000, 30000);
        x.costs(0, 1, 0, 9999, 999);
        Check.due("PAPERS", x.run(0, 240, 0), 6 * 239);
        Check.due("drawn", x.ran(9), 6 * 239);
        Check.due("sold", x.ran(1), 6 * 238);
        Check.due("grain that came", x.fort(0, 239, 0), 60 * 239);
        Check.due("sacks that came", x.town(0, 239, 0), 6 * 238);
        Check.due("coins", x.book(5, 239, 0), 30000 - 240 * 10 + 238 * 50);
    }

    private static long[] told(SaltOffice x) {
        long[] all = new long[11 + 30 * 6];
        for (int what = 0; what <= 10; what++) {
            all[what] = x.ran(what);
        }
        for (int m = 0; m < 30; m++) {
            all[11 + 6 * m] = x.fort(0, m, 0);
            all[12 + 6 * m] = x.pan(0, m, 0);
            all[13 + 6 * m] = x.town(0, m, 0);
            all[14 + 6 * m] = x.book(0, m, 0);
            all[15 + 6 * m] = x.book(0, m, 1);
            all[16 + 6 * m] = x.paper(m, 6);
        }
        return all;
    }

    private static void ranNone() {
        Check.sentence("16: NONE for another what, or without.");
        SaltOffice x = new SaltOffice();
        Check.due("without a RUN", x.ran(10), -1);
        x.run(0, 2, 0);
        int[] wrong = {-1, 11, 12, Integer.MIN_VALUE, Integer.MAX_VALUE};
        for (int what : wrong) {
            Check.due("ran(" + what + ")", x.ran(what), -1);
        }
        Check.due("ran(10)", x.ran(10), 2);
    }

    private static final int[] WRONG = {-1, 3, 6, 240, Integer.MIN_VALUE, Integer.MAX_VALUE};

    private static void fortNone() {
        Check.sentence("17: NONE if there is none such.");
        SaltOffice x = Check.office(FORT + FORT.replace("fort f", "fort g") + PAN + TOWN, "");
        Check.due("without a RUN", x.fort(0, 0, 0), -1);
        x.run(0, 3, 0);
        Check.due("fort(1, 2, 1)", x.fort(1, 2, 1), 0);
        Check.due("fort(2, 2, 1)", x.fort(2, 2, 1), -1);
        Check.due("fort(1, 2, 2)", x.fort(1, 2, 2), -1);
        for (int w : WRONG) {
            Check.due("fort(" + w + ", 0, 0)", x.fort(w, 0, 0), -1);
            Check.due("fort(0, " + w + ", 0)", x.fort(0, w, 0), -1);
            Check.due("fort(0, 0, " + w + ")", x.fort(0, 0, w), -1);
        }
    }

    private static void panNone() {
        Check.sentence("18: NONE likewise.");
        SaltOffice x = Check.office(PAN + PAN.replace("pan s", "pan r") + TOWN, "");
        Check.due("without a RUN", x.pan(0, 0, 0), -1);
        x.run(0, 3, 0);
        Check.due("pan(1, 2, 1)", x.pan(1, 2, 1), 0);
        Check.due("pan(2, 2, 1)", x.pan(2, 2, 1), -1);
        Check.due("pan(1, 2, 2)", x.pan(1, 2, 2), -1);
        for (int w : WRONG) {
            Check.due("pan(" + w + ", 0, 0)", x.pan(w, 0, 0), -1);
            Check.due("pan(0, " + w + ", 0)", x.pan(0, w, 0), -1);
            Check.due("pan(0, 0, " + w + ")", x.pan(0, 0, w), -1);
        }
    }

    private static void townNone() {
        Check.sentence("19: NONE likewise.");
        SaltOffice x = Check.office(TOWN + TOWN.replace("town t", "town u"), "");
        Check.due("without a RUN", x.town(0, 0, 0), -1);
        x.run(0, 3, 0);
        Check.due("town(1, 2, 2)", x.town(1, 2, 2), 0);
        Check.due("town(2, 2, 2)", x.town(2, 2, 2), -1);
        Check.due("town(1, 2, 3)", x.town(1, 2, 3), -1);
        for (int w : WRONG) {
            Check.due("town(" + w + ", 0, 0)", x.town(w, 0, 0), -1);
            Check.due("town(0, " + w + ", 0)", x.town(0, w, 0), -1);
            Check.due("town(0, 0, " + w + ")", x.town(0, 0, w), -1);
        }
    }

    private static void bookNone() {
        Check.sentence("20: NONE likewise.");
        SaltOffice x = Check.office(TOWN, "", 5, 6);
        Check.due("without a RUN", x.book(0, 0, 0), -1);
        x.run(0, 3, 0);
        Check.due("book(1, 2, 0)", x.book(1, 2, 0), 6);
        Check.due("book(1, 2, 2)", x.book(1, 2, 2), 0);
        Check.due("book(2, 2, 0)", x.book(2, 2, 0), -1);
        Check.due("book(1, 2, 3)", x.book(1, 2, 3), -1);
        for (int w : WRONG) {
            Check.due("book(" + w + ", 0, 0)", x.book(w, 0, 0), -1);
            Check.due("book(0, " + w + ", 0)", x.book(0, w, 0), -1);
            Check.due("book(0, 0, " + w + ")", x.book(0, 0, w), -1);
        }
    }

    private static void paperNone() {
        Check.sentence("21: NONE if there is none such.");
        SaltOffice x = Check.office(PAN + TOWN, "coin 1;most 10;", 1000);
        Check.due("without a RUN", x.paper(0, 2), -1);
        Check.due("run(0, 5, 0)", x.run(0, 5, 0), 5);
        Check.due("paper(4, 2)", x.paper(4, 2), 10);
        int[] wrong = {-1, 5, 1439, 1440, 2000, Integer.MIN_VALUE, Integer.MAX_VALUE};
        for (int w : wrong) {
            for (int what = 0; what < 8; what++) {
                Check.due("paper(" + w + ", " + what + ")", x.paper(w, what), -1);
            }
        }
        int[] others = {-1, 8, Integer.MIN_VALUE, Integer.MAX_VALUE};
        for (int what : others) {
            Check.due("paper(0, " + what + ")", x.paper(0, what), -1);
        }
        // Those of a longer RUN are none of a shorter one.
        Check.due("run(0, 2, 0)", x.run(0, 2, 0), 2);
        Check.due("paper(2, 2)", x.paper(2, 2), -1);
    }

    private static void makesAheadOfDrawing() {
        Check.sentence("(a) PANS make salt. .. (c) PAN by PAN PAPERS draw");
        // What MONTH 1 makes is drawn in MONTH 1; it is bought behind (c) of MONTH 0, though there is salt then.
        SaltOffice x = Check.office(PAN.replace("makes 99 99", "makes 0 10") + TOWN, "coin (month=0);most 10;", 10);
        x.run(0, 2, 0);
        Check.due("paper(0, 6)", x.paper(0, 6), 1);
        Check.due("pan(0, 1, 0)", x.pan(0, 1, 0), 0);
        SaltOffice y = Check.office(PAN + TOWN, "coin (month=0);most 10;", 10);
        y.run(0, 1, 0);
        Check.due("not in its own MONTH", y.paper(0, 6), -1);
        Check.due("it waits", y.pan(0, 0, 1), 10);
    }

    private static void comesAfterMonths() {
        Check.sentence("(e) what sets out, grain or salt, comes as many MONTHS later as its way has");
        int[][] ways = {{1, 1}, {30, 1}, {31, 2}, {60, 2}, {61, 3}, {90, 3}};
        for (int[] w : ways) {
            SaltOffice x = Check.office("road p0 p1 " + w[0] + ";" + FORT + PAN + TOWN.replace("at p0", "at p1"), "rate (month=0);", 10);
            x.costs(0, 1, 0, 9999, 999);
            x.run(0, 8, 0);
            Check.due("grain by " + w[0] + " days, the MONTH ahead", x.fort(0, w[1] - 1, 0), 0);
            Check.due("grain by " + w[0] + " days", x.fort(0, w[1], 0), 10);
            Check.due("its PAPER", x.paper(0, 3), w[1]);
            Check.due("draws in the same MONTH", x.paper(0, 6), w[1]);
            Check.due("salt by " + w[0] + " days, the MONTH ahead", x.town(0, 2 * w[1] - 1, 0), 0);
            Check.due("salt by " + w[0] + " days", x.town(0, 2 * w[1], 0), 1);
            Check.due("coins", x.book(0, 2 * w[1], 0), 50);
        }
    }

    private static void oneMonthAtLeast() {
        Check.sentence("(e) .. (1 at least)");
        SaltOffice x = Check.office(FORT + PAN + TOWN, "rate (month=0);", 10);
        x.costs(0, 1, 0, 9999, 999);
        x.run(0, 3, 0);
        Check.due("grain in its own MONTH", x.fort(0, 0, 0), 0);
        Check.due("grain on the spot", x.fort(0, 1, 0), 10);
        Check.due("its PAPER's MONTH", x.paper(0, 3), 1);
        Check.due("its PAPER's DAYS", x.paper(0, 4), 0);
        Check.due("salt in its own MONTH", x.town(0, 1, 0), 0);
        Check.due("salt on the spot", x.town(0, 2, 0), 1);
    }

    private static void sentFirstComesFirst() {
        Check.sentence("(b) .. what was sent first comes first");
        // In MONTH 0 grain sets out by 31 days, in MONTH 1 by 1: both come in MONTH 2.
        SaltOffice x = Check.office("road p0 p1 31;road p0 p2 1;" + FORT + PAN + TOWN.replace("at p0", "at p1") + TOWN.replace("town t at p0", "town u at p2"),
            "rate (month=0)*(days=31) + (month=1)*(days=1);", 100);
        x.costs(0, 1, 0, 9999, 999);
        Check.due("run(0, 3, 0)", x.run(0, 3, 0), 2);
        Check.due("the first's MONTH", x.paper(0, 3), 2);
        Check.due("the first's DAYS", x.paper(0, 4), 31);
        Check.due("the second's MONTH", x.paper(1, 3), 2);
        Check.due("the second's DAYS", x.paper(1, 4), 1);
        // Of one MONTH: as MERCHANTS set out.
        SaltOffice y = Check.office(FORT + PAN + TOWN, "rate (month=0);", 10, 10, 10);
        y.costs(0, 1, 0, 9999, 999);
        y.run(0, 2, 0);
        for (int i = 0; i < 3; i++) {
            Check.due("PAPER of MERCHANT " + i, y.paper(i, 0), i);
        }
    }

    private static void soldAtPriceAhead() {
        Check.sentence("(b) .. sacks into TOWNS (they are sold by the MERCHANT as they come: each brings PRICE as it was ahead of them)");
        // Both draw in MONTH 1 and come in MONTH 2: the second's find a stock of ten, the first's an empty TOWN.
        SaltOffice x = Check.office(PAN + "town t at p0 of 0 wants 10 price 30 grain 0 cost 1;", "coin (month=0);most 20;", 10, 10);
        x.costs(0, 1, 0, 9999, 999);
        x.run(0, 3, 0);
        Check.due("the first's coins", x.book(0, 2, 0), 10 * 90);
        Check.due("the second's coins", x.book(1, 2, 0), 10 * 60);
        Check.due("sold", x.ran(1), 20);
        Check.due("stock behind use", x.town(0, 2, 0), 10);
        Check.due("nothing was sold before", x.book(0, 1, 0), 0);
    }

    private static void soldNoLessThanZero() {
        Check.sentence("(b) .. less tax, no less than 0; tax for each to the state");
        int[][] taxes = {{49, 1}, {50, 0}, {51, 0}, {9999, 0}};
        for (int[] t : taxes) {
            SaltOffice x = Check.office(PAN + TOWN, "coin (month=0);most 10;tax " + t[0] + "*(month=2);", 10);
            x.costs(0, 1, 0, 9999, 999);
            x.run(0, 3, 0);
            Check.due("coins by a tax of " + t[0], x.book(0, 2, 0), 10 * t[1]);
            Check.due("the state's by a tax of " + t[0], x.ran(2), 10 + 10 * t[0]);
            Check.due("sold", x.ran(1), 10);
        }
    }

    private static void soldWithTaxOfThatMonth() {
        Check.sentence("coin, most, tax, guard are told once a MONTH");
        SaltOffice x = Check.office(PAN + TOWN, "coin 1*(month=0);most 10;tax month;", 10);
        x.costs(0, 1, 0, 9999, 999);
        x.run(0, 3, 0);
        Check.due("the tax of MONTH 2", x.ran(2), 10 + 20);
        Check.due("coins", x.book(0, 2, 0), 10 * 48);
    }

    private static void paperAsPromised() {
        Check.sentence("(b) .. its PAPER is given now, for n * rate sacks as promised when it set out, at the PAN that was BEST then");
        // In MONTH 0 r is the BEST PAN; by MONTH 2 ten sacks wait there, and s would be. The rate is another too.
        SaltOffice x = Check.office("road p0 p1 31;" + FORT + PAN + PAN.replace("pan s at p0", "pan r at p0").replace("serves 0", "serves 1").replace("99 99", "0 0")
            + TOWN.replace("at p0", "at p1") + TOWN.replace("town t at p0 of 0", "town u at p1 of 1").replace("price 50", "price 55"),
            "rate 7*(month=0) + 30*(month=2);coin (month=1);most 200;", 20, 200);
        x.costs(0, 2, 9, 9999, 999);
        x.run(0, 3, 0);
        int paper = x.paper(0, 5) == 1 ? -1 : 0;
        for (int i = 0; i < 9 && paper < 0; i++) {
            paper = x.paper(i, 5) == 0 ? i : -1;
        }
        Check.due("its sacks", x.paper(paper, 2), 2 * 7);
        Check.due("its PAN", x.paper(paper, 1), 1);
        Check.due("its MONTH", x.paper(paper, 3), 2);
        Check.due("s is BEST now", x.worth(0) > x.worth(1), true);
    }

    private static void drawsIfSaltEnough() {
        Check.sentence("(c) .. each as a whole if there is salt enough, else it and all behind it wait on");
        // 20 and 10 sacks are bought in MONTH 0; in MONTH 1 there are so many.
        int[][] cases = {{0, -1, -1}, {9, -1, -1}, {10, -1, -1}, {19, -1, -1}, {20, 1, -1}, {29, 1, -1}, {30, 1, 1}, {31, 1, 1}};
        for (int[] c : cases) {
            SaltOffice x = Check.office("pan s at p0 makes 0 " + c[0] + Check.times(" 0", 10) + " serves 0;" + TOWN, "coin (month=0);most 30;", 20, 10);
            x.costs(0, 2, 0, 9999, 999);
            x.run(0, 5, 0);
            Check.due("the first of " + c[0], x.paper(0, 6), c[1]);
            Check.due("the second of " + c[0], x.paper(1, 6), c[2]);
            int left = c[0] - (c[1] == 1 ? 20 : 0) - (c[2] == 1 ? 10 : 0);
            Check.due("salt of " + c[0], x.pan(0, 4, 0), left);
            Check.due("waiting of " + c[0], x.pan(0, 4, 1), (c[1] == 1 ? 0 : 20) + (c[2] == 1 ? 0 : 10));
            Check.due("PAPERS that wait", x.ran(6), (c[1] == 1 ? 0 : 1) + (c[2] == 1 ? 0 : 1));
        }
    }

    private static void drawsAsGiven() {
        Check.sentence("(c) .. by CLASS, of like ones as they were given (bought ones as they were bought)");
        SaltOffice x = Check.office("pan s at p0 makes 0 0 0 10 10 10 10 0 0 0 0 0 serves 0;" + TOWN, "coin 1;most 20*(month<2);", 20, 20);
        x.costs(0, 1, 0, 9999, 999);
        x.run(0, 8, 0);
        for (int i = 0; i < 4; i++) {
            Check.due("PAPER " + i + " was given", x.paper(i, 3), i / 2);
            Check.due("PAPER " + i + " drew", x.paper(i, 6), 3 + i);
        }
        // An earlier CLASS that holds up holds up those of later ones too.
        SaltOffice y = Check.office("pan s at p0 makes 0 10 0 0 0 0 0 0 0 0 0 0 serves 0;" + TOWN, "coin (month=0);most 30;class sacks=20;", 10, 20);
        y.costs(0, 2, 0, 9999, 999);
        y.run(0, 3, 0);
        Check.due("held up", y.paper(0, 6), -1);
        Check.due("holds up", y.paper(1, 6), -1);
    }

    private static void drawsPanByPan() {
        Check.sentence("(c) PAN by PAN PAPERS draw");
        // s holds up its own PAPERS alone.
        SaltOffice x = Check.office("pan s at p0 makes" + Check.times(" 0", 12) + " serves 0;pan r at p0 makes" + Check.times(" 5", 12) + " serves 1;"
            + TOWN + TOWN.replace("town t at p0 of 0", "town u at p0 of 1").replace("price 50", "price 45"), "coin (month=0);most 30;", 10, 10);
        x.costs(0, 1, 1, 9999, 999);
        x.run(0, 3, 0);
        Check.due("PAN of the first", x.paper(0, 1), 0);
        Check.due("PAN of the second", x.paper(1, 1), 1);
        Check.due("the first waits", x.paper(0, 6), -1);
        Check.due("the second draws", x.paper(1, 6), 1);
        Check.due("none is LOST", x.ran(5), 0);
    }

    private static void paysAsFarAsCoinsGo() {
        Check.sentence("(c) .. paying DAYS * HAUL / 10 (cut) a sack, as far as COINS go");
        // 19 days at 1: one coin a sack, ten sacks.
        int[][] cases = {{10, 0}, {19, 0}, {20, 0}, {21, 1}, {30, 10}};
        for (int[] c : cases) {
            SaltOffice x = Check.office("road p0 p1 19;" + PAN + TOWN.replace("at p0", "at p1"), "coin (month=0);most 10;", c[0]);
            x.costs(1, 1, 0, 9999, 999);
            x.run(0, 2, 0);
            Check.due("bought with " + c[0], x.book(0, 0, 0), c[0] - 10);
            Check.due("coins behind drawing", x.book(0, 1, 0), c[1]);
            x.run(0, 3, 0);
            Check.due("all came", x.ran(1), 10);
            Check.due("coins behind selling", x.book(0, 2, 0), c[1] + 500);
        }
        // 20 days at 1 are two coins a sack, 7 days at 3 are two as well.
        int[][] ways = {{10, 1, 1}, {20, 1, 2}, {7, 3, 2}, {90, 99, 891}, {90, 0, 0}};
        for (int[] w : ways) {
            SaltOffice x = Check.office("road p0 p1 " + w[0] + ";" + PAN + TOWN.replace("at p0", "at p1").replace("price 50", "price 999"),
                "coin (month=0);most 10;", 20000);
            x.costs(w[1], 1, 0, 9999, 999);
            x.run(0, 2, 0);
            Check.due(w[0] + " days at " + w[1], x.book(0, 1, 0), 20000 - 10 - 10 * w[2]);
        }
        // 9 days at 1 are nothing a sack.
        SaltOffice y = Check.office("road p0 p1 9;" + PAN + TOWN.replace("at p0", "at p1"), "coin (month=0);most 10;", 15);
        y.costs(1, 1, 0, 9999, 999);
        y.run(0, 2, 0);
        Check.due("cut to nothing", y.book(0, 1, 0), 5);
    }

    private static void waitedMonths() {
        Check.sentence("16: 6: PAPERS that wait, 7: their sacks, 8: MONTHS that drawn PAPERS waited, together, 9: drawn PAPERS");
        SaltOffice x = Check.office("pan s at p0 makes 0 0 0 30 0 10 0 0 0 0 0 0 serves 0;" + TOWN, "coin (month=0);most 60;", 10, 20, 10, 20);
        x.costs(0, 2, 0, 9999, 999);
        int[][] want = {{1, 4, 60, 0, 0}, {3, 4, 60, 0, 0}, {4, 2, 30, 6, 2}, {5, 2, 30, 6, 2}, {6, 1, 20, 11, 3}, {12, 1, 20, 11, 3}};
        for (int[] w : want) {
            x.run(0, w[0], 0);
            for (int what = 6; what <= 9; what++) {
                Check.due("ran(" + what + ") behind " + w[0], x.ran(what), w[what - 5]);
            }
        }
        // A farm's or a carried PAPER that draws as it is given waited 0 MONTHS.
        SaltOffice y = Check.office(FORT + PAN + TOWN, "rate (month=0);", 10);
        y.costs(0, 1, 0, 9999, 999);
        y.run(0, 2, 0);
        Check.due("drawn", y.ran(9), 1);
        Check.due("waited", y.ran(8), 0);
    }

    private static void fortsEat() {
        Check.sentence("(d) FORTS eat (what lacks is STARVED)");
        int[][] cases = {{20, 100, 80, 0}, {20, 21, 1, 0}, {20, 20, 0, 0}, {20, 19, 0, 1}, {20, 0, 0, 20}, {0, 0, 0, 0}, {0, 5, 5, 0}, {999, 0, 0, 999}};
        for (int[] c : cases) {
            SaltOffice x = Check.office("fort f at p0 eats " + c[0] + " store " + c[1] + ";", "");
            x.run(0, 1, 0);
            Check.due("store of " + c[1] + " by " + c[0], x.fort(0, 0, 0), c[2]);
            Check.due("lacked of " + c[1] + " by " + c[0], x.fort(0, 0, 1), c[3]);
            Check.due("STARVED", x.ran(0), c[3]);
        }
        SaltOffice y = Check.office("fort f at p0 eats 20 store 30;fort g at p0 eats 7 store 0;", "");
        y.run(0, 3, 0);
        Check.due("lacked in MONTH 1 alone", y.fort(0, 1, 1), 10);
        Check.due("lacked in MONTH 2 alone", y.fort(0, 2, 1), 20);
        Check.due("STARVED of both, together", y.ran(0), 10 + 20 + 3 * 7);
        // What comes in (b) of the same MONTH is eaten.
        SaltOffice z = Check.office("fort f at p0 eats 10 store 10;" + PAN + TOWN, "rate (month=0);", 10);
        z.costs(0, 1, 0, 9999, 999);
        z.run(0, 3, 0);
        Check.due("MONTH 1", z.fort(0, 1, 1), 0);
        Check.due("MONTH 2", z.fort(0, 2, 1), 10);
    }

    private static void townsUse() {
        Check.sentence("(d) TOWNS use as much as they want of what they have");
        int[][] cases = {{1, 9, 8}, {9, 1, 0}, {10, 0, 0}, {11, 0, 0}, {999, 0, 0}, {0, 10, 10}};
        for (int[] c : cases) {
            SaltOffice x = Check.office(PAN + TOWN.replace("wants 0", "wants " + c[0]), "coin (month=0);most 10;", 10);
            x.costs(0, 1, 0, 9999, 999);
            x.run(0, 4, 0);
            Check.due("stock in MONTH 2, wants " + c[0], x.town(0, 2, 0), c[1]);
            Check.due("stock in MONTH 3, wants " + c[0], x.town(0, 3, 0), c[2]);
        }
    }

    private static void farmAtOnce() {
        Check.sentence("(e) .. grain of a farm comes at once, PAPERS for it .. are given at once (at the BEST PAN). A FARM is founded in its MONTH.");
        SaltOffice x = Check.office("fort f at p0 eats 5 store 0;" + PAN + TOWN.replace("grain 999", "grain 0"), "rate 3 + (store=20);", 1000, 1000);
        x.costs(0, 2, 0, 10, 1);
        Check.due("run(0, 13, 0)", x.run(0, 13, 0), 2);
        Check.due("founded", x.book(0, 0, 1), 3);
        Check.due("behind (d), so it lacks in that MONTH", x.fort(0, 12, 1), 5);
        Check.due("grain of both", x.fort(0, 12, 0), 40);
        Check.due("the first's sacks", x.paper(0, 2), 6);
        // The second asks for its rate behind the first's grain.
        Check.due("the second's sacks", x.paper(1, 2), 8);
        Check.due("given in", x.paper(1, 3), 12);
        Check.due("they wait", x.pan(0, 12, 1), 14);
        x.run(0, 14, 0);
        Check.due("eaten in the next", x.fort(0, 13, 1), 0);
        Check.due("drawn in the next", x.paper(1, 6), 13);
    }

    private static void boughtAtOnce() {
        Check.sentence("(e) .. and bought ones, are given at once (at the BEST PAN). Coins for bought PAPERS go to the state.");
        SaltOffice x = Check.office(PAN + TOWN, "coin 3;most 10;", 100);
        x.costs(0, 1, 0, 9999, 999);
        x.run(0, 1, 0);
        int[] want = {0, 0, 10, 0, 0, 1, -1, 0};
        for (int what = 0; what < 8; what++) {
            Check.due("paper(0, " + what + ")", x.paper(0, what), want[what]);
        }
        Check.due("the state's", x.ran(2), 30);
        Check.due("the MERCHANT's", x.book(0, 0, 0), 70);
    }

    private static void merchantsByNumber() {
        Check.sentence("(e) MERCHANTS, by number, take their WAYS");
        SaltOffice x = Check.office(PAN + TOWN, "coin 1;most 60;", 30, 10, 20, 0, 10, 10);
        x.costs(0, 5, 0, 9999, 999);
        x.run(0, 1, 0);
        // 30, 10 and 20: nothing is left for the last two.
        int[] sacks = {30, 10, 20, -1};
        for (int i = 0; i < 4; i++) {
            Check.due("sacks of PAPER " + i, x.paper(i, 2), sacks[i]);
        }
        Check.due("the last", x.book(5, 0, 1), 0);
    }

    private static void waysBehindUse() {
        Check.sentence("A MONTH, in order: .. (d) TOWNS use as much as they want of what they have. (e) MERCHANTS take their WAYS");
        // 20 come in MONTH 2, 10 are used: PRICE is 30 * (30 - 10) / 10.
        SaltOffice x = Check.office(PAN + "town t at p0 of 0 wants 10 price 30 grain 0 cost 1;", "coin 1;most 20*(month=0) + 10*(month=2);", 20);
        x.costs(0, 2, 0, 9999, 999);
        x.run(0, 3, 0);
        Check.due("gain in MONTH 2", x.book(0, 2, 2), 10 * (60 - 1));
    }

    private static void waysAheadOfSmuggling() {
        Check.sentence("A MONTH, in order: .. (e) MERCHANTS take their WAYS .. (f) SMUGGLED");
        // 100 come to u in MONTH 2, 30 are used: PRICE 100 * (90 - 70) / 30; then 7 go to v, and it is 100 * (90 - 63) / 30.
        SaltOffice x = Check.office(PAN + "town u at p0 of 0 wants 30 price 100 grain 0 cost 1;town v at p0 of 1 wants 30 price 100 grain 0 cost 1;",
            "coin 1;most 100*(month=0) + 10*(month=2);", 100);
        x.costs(0, 10, 0, 9999, 999);
        x.run(0, 4, 0);
        Check.due("100 do not draw before MONTH 1", x.paper(0, 6), 1);
        Check.due("SMUGGLED in MONTH 2", x.town(1, 2, 2), 7);
        Check.due("gain in MONTH 2", x.book(0, 2, 2), 10 * (66 - 1));
        Check.due("PRICE behind MONTH 2", x.town(0, 2, 1), 90);
    }

    /** So many sacks come to the first TOWN in MONTH 2; the second has none. PRICE of the first is its c, it wants none. */
    private static SaltOffice twoTowns(String roads, int sacks, String first, String second, String reform) {
        SaltOffice x = Check.office(roads + "pan s at p0 makes 999 0 0 0 0 0 0 0 0 0 0 0 serves 0;" + first + second,
            "coin (month=0);most 9999;" + reform, sacks);
        x.costs(0, 50, 0, 9999, 999);
        x.run(0, 3, 0);
        return x;
    }

    private static final String GIVES = "town t at p0 of 0 wants 0 price 50 grain 0 cost 1;";

    private static void smuggledAboveDays() {
        Check.sentence("(f) if PRICE of b less PRICE of a is above DAYS");
        int[][] cases = {{69, 20, 0}, {70, 20, 0}, {71, 20, 10}, {140, 90, 0}, {141, 90, 10}};
        for (int[] c : cases) {
            SaltOffice x = twoTowns("road p0 p1 " + c[1] + ";", 100, GIVES, "town u at p1 of 1 wants 0 price " + c[0] + " grain 0 cost 1;", "");
            Check.due("wants none: " + c[0], x.ran(3), 0);
            // With wants of 30 the PRICE of an empty TOWN is three times its c.
            int three = c[0] / 3;
            int price = 3 * three;
            SaltOffice y = twoTowns("road p0 p1 " + c[1] + ";", 100, GIVES, "town u at p1 of 1 wants 30 price " + three + " grain 0 cost 1;", "");
            Check.due("PRICE " + price + " by " + c[1], y.ran(3), price - 50 > c[1] ? 10 : 0);
        }
        // 50 against 51, by 0 days and by 1.
        SaltOffice x = twoTowns("", 100, GIVES, "town u at p0 of 1 wants 30 price 17 grain 0 cost 1;", "");
        Check.due("1 above by 0 days", x.ran(3), 10);
        SaltOffice y = twoTowns("road p0 p1 1;", 100, GIVES, "town u at p1 of 1 wants 30 price 17 grain 0 cost 1;", "");
        Check.due("1 above by a day", y.ran(3), 0);
        SaltOffice z = twoTowns("road p0 p1 2;", 100, GIVES, "town u at p1 of 1 wants 30 price 18 grain 0 cost 1;", "");
        Check.due("4 above by two days", z.ran(3), 10);
        Check.sentence("(f) of like PRICES none");
        SaltOffice w = twoTowns("", 100, GIVES.replace("price 50", "price 51"), "town u at p0 of 1 wants 30 price 17 grain 0 cost 1;", "");
        Check.due("like PRICES", w.ran(3), 0);
        Check.sentence("(f) .. with a way");
        SaltOffice v = twoTowns("", 100, GIVES, "town u at p1 of 1 wants 30 price 900 grain 0 cost 1;", "");
        Check.due("no way", v.ran(3), 0);
    }

    private static void smuggledATenth() {
        Check.sentence("(f) a tenth of a's stock (cut)");
        int[][] cases = {{10, 1}, {20, 2}, {90, 9}, {100, 10}, {490, 49}};
        for (int[] c : cases) {
            SaltOffice x = twoTowns("", c[0], GIVES, "town u at p0 of 1 wants 999 price 900 grain 0 cost 1;", "");
            Check.due("of " + c[0], x.ran(3), c[1]);
            Check.due("t's", x.town(0, 2, 0), c[0] - c[1]);
            Check.due("u's", x.town(1, 2, 0), c[1]);
            Check.due("came to u", x.town(1, 2, 2), c[1]);
            Check.due("came to t", x.town(0, 2, 2), 0);
        }
        // In MONTH 3 nine are left, of which a tenth is nothing; 99 would give nine.
        SaltOffice y = twoTowns("", 10, GIVES, "town u at p0 of 1 wants 999 price 900 grain 0 cost 1;", "");
        y.run(0, 4, 0);
        Check.due("of 9", y.town(1, 3, 2), 0);
        Check.due("t keeps them", y.town(0, 3, 0), 9);
        SaltOffice z = twoTowns("", 110, GIVES, "town u at p0 of 1 wants 999 price 900 grain 0 cost 1;", "");
        z.run(0, 4, 0);
        Check.due("of 99", z.town(1, 3, 2), 9);
    }

    private static void smuggledByWants() {
        Check.sentence("(f) .. as many as b wants at most");
        int[][] cases = {{0, 0}, {1, 1}, {9, 9}, {10, 10}, {11, 10}};
        for (int[] c : cases) {
            SaltOffice x = twoTowns("", 100, GIVES, "town u at p0 of 1 wants " + c[0] + " price 900 grain 0 cost 1;", "");
            Check.due("wants " + c[0], x.ran(3), c[1]);
            Check.due("t's", x.town(0, 2, 0), 100 - c[1]);
        }
    }

    private static void smuggledCaught() {
        Check.sentence("(f) guard of a hundred of them (cut) are caught (gone), the rest is b's");
        int[][] cases = {{0, 0}, {9, 0}, {10, 1}, {11, 1}, {55, 5}, {99, 9}, {100, 10}};
        for (int[] c : cases) {
            SaltOffice x = twoTowns("", 100, GIVES, "town u at p0 of 1 wants 50 price 900 grain 0 cost 1;", "guard " + c[0] + ";");
            Check.due("caught by " + c[0], x.ran(4), c[1]);
            Check.due("SMUGGLED by " + c[0], x.ran(3), 10 - c[1]);
            Check.due("t's", x.town(0, 2, 0), 90);
            Check.due("u's", x.town(1, 2, 0), 10 - c[1]);
            Check.due("came to u", x.town(1, 2, 2), 10 - c[1]);
        }
    }

    private static void smuggledByNumbers() {
        Check.sentence("(f) SMUGGLED: for each two TOWNS of unlike DISTRICTS, by numbers (the one of the lower PRICE, a, gives)");
        String cheap = "town c at p0 of 0 wants 0 price 1 grain 0 cost 1;";
        // The pan serves DISTRICT 0 with a price of 1 there: tax is 0, coin 1 would gain nothing; so the rate pays in sacks.
        String land = "fort f at p0 eats 0 store 0;pan s at p0 makes 999 0 0 0 0 0 0 0 0 0 0 0 serves 0;";
        String dear = "town d at p0 of 1 wants 100 price 100 grain 0 cost 1;";
        String dearest = "town e at p0 of 2 wants 100 price 200 grain 0 cost 1;";
        String grain = "town g at p0 of 3 wants 0 price 1 grain 10 cost 1;";
        String reform = "rate 400*(month=0);";
        // (0, 1): 40 of 400 go to d; (0, 2): 36 of 360 to e; (1, 2): d is at 260, e at 528: 4 of 40.
        SaltOffice x = Check.office(land + cheap + dear + dearest + grain, reform, 10);
        x.costs(0, 1, 0, 9999, 999);
        x.run(0, 3, 0);
        Check.due("c's", x.town(0, 2, 0), 400 - 40 - 36);
        Check.due("d's", x.town(1, 2, 0), 40 - 4);
        Check.due("e's", x.town(2, 2, 0), 36 + 4);
        Check.due("came to d", x.town(1, 2, 2), 40);
        Check.due("came to e", x.town(2, 2, 2), 40);
        Check.due("SMUGGLED", x.ran(3), 80);
        // Told the other way round: (0, 1) is e and d, both empty; (0, 2): 40 to e; (1, 2): 36 to d.
        SaltOffice y = Check.office(land + dearest + dear + cheap + grain, reform, 10);
        y.costs(0, 1, 0, 9999, 999);
        y.run(0, 3, 0);
        Check.due("e's", y.town(0, 2, 0), 40);
        Check.due("d's", y.town(1, 2, 0), 36);
        Check.due("c's", y.town(2, 2, 0), 324);
        Check.due("SMUGGLED", y.ran(3), 76);
    }

    private static void smuggledOfUnlikeDistricts() {
        Check.sentence("(f) .. of unlike DISTRICTS");
        for (int d = 0; d < 5; d++) {
            SaltOffice x = twoTowns("", 100, GIVES, "town u at p1 of " + d + " wants 50 price 900 grain 0 cost 1;", "");
            Check.due("without a way", x.ran(3), 0);
            SaltOffice y = twoTowns("road p0 p1 9;", 100, GIVES.replace("price 50", "price 90"),
                "town u at p1 of " + d + " wants 50 price 40 grain 0 cost 1;", "");
            Check.due("DISTRICT " + d, y.ran(3), d == 0 ? 0 : 10);
        }
    }

    private static void judgeRefused() {
        Check.sentence("24: NONE if one can't be.");
        SaltOffice x = Check.office(Check.LAND, "rate 20;", 1000);
        int[] shelves = {-1, 4, Integer.MIN_VALUE, Integer.MAX_VALUE};
        for (int shelf : shelves) {
            Check.due("judge(" + shelf + ", 0, 1, 0)", x.judge(shelf, 0, 1, 0), -1);
            Check.due("judge(0, " + shelf + ", 1, 0)", x.judge(0, shelf, 1, 0), -1);
        }
        int[] months = {-1, 241, Integer.MIN_VALUE, Integer.MAX_VALUE};
        for (int n : months) {
            Check.due("judge(0, 1, " + n + ", 0)", x.judge(0, 1, n, 0), -1);
        }
        Check.due("judge(3, 3, 0, 0)", x.judge(3, 3, 0, 0), 2);
        Check.due("judge(3, 3, 240, -5)", x.judge(3, 3, 240, -5), 2);
        Check.due("judge(0, 3, 240, 5)", x.judge(0, 3, 240, 5), 0);
    }

    private static void judgeKeepsRun() {
        Check.sentence("24: (what was run last stays)");
        SaltOffice x = Check.office(Check.LAND, "rate 20;", 1000);
        x.judge(0, 1, 9, 0);
        Check.due("no RUN by it", x.ran(10), -1);
        Check.due("no PAPER by it", x.paper(0, 0), -1);
        Check.due("no WORTH by it", x.worth(0), Check.NO_WORTH);
        x.run(0, 4, 0);
        x.judge(1, 2, 30, 0);
        x.judge(7, 2, 30, 0);
        Check.due("ran(10)", x.ran(10), 4);
        Check.due("ran(1)", x.ran(1), 100);
        Check.due("fort(0, 3, 0)", x.fort(0, 3, 0), 170);
        Check.due("fort(0, 4, 0)", x.fort(0, 4, 0), -1);
        Check.due("paper(1, 6)", x.paper(1, 6), 3);
        Check.due("way(0, 4)", x.way(0, 4), 2550);
        Check.due("worth(0)", x.worth(0), 28);
    }

    private static void judgeByStarved() {
        Check.sentence("24: 0 the first: less STARVED; 1 the second; 2 all like");
        // One ten of grain, in MONTH 0: 10 less lacked by MONTH 6, when the store of 100 is gone.
        SaltOffice x = Check.office(Check.LAND, "rate 20*(month=0);", 50);
        x.costs(1, 1, 1, 9999, 999);
        Check.due("none lacks yet", x.judge(0, 1, 1, 0), 2);
        Check.due("the first", x.judge(0, 1, 7, 0), 0);
        Check.due("the second", x.judge(1, 0, 7, 0), 1);
        // Less STARVED counts ahead of what waits and of coins.
        Check.reform(x, 2, "coin 1;most 10;");
        Check.due("STARVED ahead of coins: first", x.judge(0, 2, 7, 0), 0);
        Check.due("STARVED ahead of coins: second", x.judge(2, 0, 7, 0), 1);
        Check.due("all like", x.judge(3, 1, 7, 0), 2);
    }

    private static void judgeByWaits() {
        Check.sentence("24: of like ones less that drawn PAPERS waited for each (by fractions; none drawn is worse than any, like none drawn)");
        // PAPERS of ten sacks, bought one a MONTH from MONTH 0 on; salt for one comes in MONTHS 2, 4 and 6.
        SaltOffice x = Check.office("pan s at p0 makes 0 0 10 0 10 0 10 0 0 0 0 0 serves 0;" + TOWN, "coin 1;most 10*(month=0);", 30000);
        x.costs(0, 1, 0, 9999, 999);
        // 0: one waits 2. 1: three of 2, 3 and 4 MONTHS: 9 by 3. 2: two of 2 and 3 MONTHS: 5 by 2. 3: none.
        Check.reform(x, 1, "coin 1;most 10*(month<3);");
        Check.reform(x, 2, "coin 1;most 10*(month<2);");
        int[][] orders = {{0, 1, 0}, {0, 2, 0}, {2, 1, 0}, {0, 3, 0}, {1, 3, 0}, {2, 3, 0}};
        for (int[] o : orders) {
            Check.due("judge(" + o[0] + ", " + o[1] + ")", x.judge(o[0], o[1], 8, 0), o[2]);
            Check.due("judge(" + o[1] + ", " + o[0] + ")", x.judge(o[1], o[0], 8, 0), 1 - o[2]);
        }
        // Like fractions of unlike numbers: 2 by 1 against 4 by 2; then the coins tell.
        Check.reform(x, 3, "coin 1;most 10*(month=0 or month=2);");
        x.run(3, 8, 0);
        Check.due("waited", x.ran(8), 4);
        Check.due("drawn", x.ran(9), 2);
        Check.due("like fractions: more coins", x.judge(0, 3, 8, 0), 1);
        Check.due("like fractions: more coins", x.judge(3, 0, 8, 0), 0);
        // None drawn by both, in 2 MONTHS: the coins tell, which are more by 2 PAPERS.
        Check.due("none drawn by both", x.judge(0, 2, 2, 0), 1);
        Check.reform(x, 3, "");
        x.end(0);
        Check.due("none drawn is like none drawn", x.judge(3, 3, 8, 0), 2);
        judgeByNoWait();
    }

    private static void judgeByNoWait() {
        // Drawn without waiting is better than drawn with, and than none drawn.
        SaltOffice x = Check.office("fort f at p0 eats 0 store 0;" + PAN + TOWN, "rate 2*(month=0);", 100);
        x.costs(0, 1, 0, 9999, 999);
        Check.reform(x, 1, "coin 1;most 10*(month=0);");
        Check.due("0 by 1 against 1 by 1", x.judge(0, 1, 3, 0), 0);
        Check.due("1 by 1 against 0 by 1", x.judge(1, 0, 3, 0), 1);
        Check.due("0 by 1 against none", x.judge(0, 2, 3, 0), 0);
        Check.due("none against 0 by 1", x.judge(2, 0, 3, 0), 1);
        Check.due("1 by 1 against none, with more coins", x.judge(1, 2, 3, 0), 0);
    }

    private static void judgeByCoins() {
        Check.sentence("24: of like ones more coins of the state");
        SaltOffice x = Check.office(PAN + TOWN, "coin 1;most 10*(month=0);", 1000);
        x.costs(0, 1, 0, 9999, 999);
        Check.reform(x, 1, "coin 2;most 10*(month=0);");
        Check.reform(x, 2, "coin 1;most 10*(month=0);guard 50;");
        for (int n = 1; n < 5; n++) {
            Check.due("the second has more", x.judge(0, 1, n, 0), 1);
            Check.due("the first has more", x.judge(1, 0, n, 0), 0);
            Check.due("all like", x.judge(0, 2, n, 0), 2);
        }
        Check.due("0 MONTHS", x.judge(0, 1, 0, 0), 2);
    }
}
