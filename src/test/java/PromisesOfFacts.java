/** Promises 8 to 14: MERCHANTS, costs, FACTS and their two times. */
public final class PromisesOfFacts {
    public static void main(String[] args) {
        merchants();
        costs();
        factsTold();
        fortyFacts();
        times();
        weatherMakes();
        forgedIsGone();
        deadLeave();
        deadToNobody();
        severalDead();
        Check.done();
    }

    private static void merchants() {
        SaltOffice x = Check.office(Check.LAND, "");
        Check.due("merchant(-1)", x.merchant(-1), -1);
        Check.due("merchant(30001)", x.merchant(30001), -1);
        x.run(0, 1, 0);
        Check.due("merchant(0)", x.merchant(0), 0);
        Check.due("what was run is none", x.ran(10), -1);
        for (int i = 1; i < 6; i++) {
            Check.due("merchant " + i, x.merchant(30000), i);
        }
        x.run(0, 1, 0);
        Check.due("merchant 6", x.merchant(1), -1);
        Check.due("a refused one does nothing", x.ran(10), 1);
        Check.due("book(0, 0, 0)", x.book(0, 0, 0), 0);
        Check.due("book(5, 0, 0)", x.book(5, 0, 0), 30000);
    }

    private static void costs() {
        SaltOffice x = Check.office(Check.LAND, "rate 20;", 1000);
        int[][] bad = {{-1, 5, 1, 1, 1}, {100, 5, 1, 1, 1}, {1, 0, 1, 1, 1}, {1, 51, 1, 1, 1}, {1, 5, -1, 1, 1}, {1, 5, 100, 1, 1},
            {1, 5, 1, -1, 1}, {1, 5, 1, 10000, 1}, {1, 5, 1, 1, -1}, {1, 5, 1, 1, 1000}};
        x.run(0, 1, 0);
        for (int[] b : bad) {
            Check.due("costs that can't be", x.costs(b[0], b[1], b[2], b[3], b[4]), false);
        }
        Check.due("they do nothing", x.ran(10), 1);
        Check.due("costs at their least", x.costs(0, 1, 0, 0, 0), true);
        Check.due("what was run is none", x.ran(10), -1);
        Check.due("costs at their most", x.costs(99, 50, 99, 9999, 999), true);
        // One ten: 20 for grain and 30 days * 2; 1000 coins allow 12 of them, the grain 20, LOAD 30.
        Check.due("costs(2, 30, 1, 500, 20)", x.costs(2, 30, 1, 500, 20), true);
        x.run(0, 1, 0);
        Check.due("coins behind twelve tens", x.book(0, 0, 0), 1000 - 12 * 80);
        Check.due("gain of twelve tens", x.book(0, 0, 2), 12 * (20 * 36 - 80));
    }

    private static void factsTold() {
        SaltOffice x = Check.office(Check.LAND, "rate 20;", 1000, 1000);
        Check.due("weather(-1, 0, 0)", x.weather(-1, 0, 0), -1);
        Check.due("weather(1, 0, 0)", x.weather(1, 0, 0), -1);
        Check.due("weather(0, -1, 0)", x.weather(0, -1, 0), -1);
        Check.due("weather(0, 240, 0)", x.weather(0, 240, 0), -1);
        Check.due("weather(0, 0, -1)", x.weather(0, 0, -1), -1);
        Check.due("weather(0, 0, 301)", x.weather(0, 0, 301), -1);
        Check.due("forged(-1, 0)", x.forged(-1, 0), -1);
        Check.due("forged(2000, 0)", x.forged(2000, 0), -1);
        Check.due("forged(0, 240)", x.forged(0, 240), -1);
        Check.due("forged(0, -1)", x.forged(0, -1), -1);
        Check.due("dead(2, 0, -1)", x.dead(2, 0, -1), -1);
        Check.due("dead(-1, 0, -1)", x.dead(-1, 0, -1), -1);
        Check.due("dead(0, 0, 0)", x.dead(0, 0, 0), -1);
        Check.due("dead(0, 0, 2)", x.dead(0, 0, 2), -1);
        Check.due("dead(0, 0, -2)", x.dead(0, 0, -2), -1);
        Check.due("dead(0, 240, 1)", x.dead(0, 240, 1), -1);
        Check.due("no FACTS yet", x.about(5), 0);
        Check.due("weather(0, 239, 300)", x.weather(0, 239, 300), 0);
        Check.due("forged(1999, 239)", x.forged(1999, 239), 1);
        Check.due("dead(0, 239, 1)", x.dead(0, 239, 1), 2);
        Check.due("dead(1, 0, -1)", x.dead(1, 0, -1), 3);
        Check.due("untell(4)", x.untell(4), false);
        Check.due("untell(-1)", x.untell(-1), false);
        Check.due("untell(3)", x.untell(3), true);
        Check.due("untell(3) again", x.untell(3), false);
        Check.due("FACTS that were UNTOLD are FACTS", x.about(5), 4);
    }

    private static void fortyFacts() {
        SaltOffice x = Check.office(Check.LAND, "", 5);
        for (int i = 0; i < 40; i++) {
            Check.due("fact " + i, x.forged(i, i), i);
        }
        Check.due("a 41st: weather", x.weather(0, 0, 0), -1);
        Check.due("a 41st: forged", x.forged(0, 0), -1);
        Check.due("a 41st: dead", x.dead(0, 0, -1), -1);
        x.untell(7);
        Check.due("a 41st when one is UNTOLD", x.forged(0, 0), -1);
    }

    private static void times() {
        SaltOffice x = Check.office(Check.LAND, "");
        Check.due("later(-1)", x.later(-1), -1);
        Check.due("later(1001)", x.later(1001), -1);
        Check.due("later(0)", x.later(0), 0);
        Check.due("later(10)", x.later(10), 10);
        x.weather(0, 0, 200);
        x.later(5);
        x.untell(0);
        int[][] known = {{9, 50}, {10, 100}, {14, 100}, {15, 50}, {-7, 50}, {Integer.MAX_VALUE, 50}, {Integer.MIN_VALUE, 50}};
        for (int[] k : known) {
            x.run(0, 1, k[0]);
            Check.due("salt as known at " + k[0], x.pan(0, 0, 0), k[1]);
        }
        x.weather(0, 0, 300);
        x.run(0, 1, Integer.MAX_VALUE);
        Check.due("salt as known at the end of time", x.pan(0, 0, 0), 150);
        x.untell(1);
        x.run(0, 1, 15);
        Check.due("TOLD and UNTOLD at one TIME", x.pan(0, 0, 0), 50);
        for (int i = 0; i < 99; i++) {
            x.later(1000);
        }
        Check.due("later(985)", x.later(985), 100000);
        Check.due("later(1)", x.later(1), -1);
        Check.due("later(0) at the end", x.later(0), 100000);
    }

    private static void weatherMakes() {
        SaltOffice x = Check.office(Check.LAND.replace("makes 50", "makes 999"), "");
        x.weather(0, 1, 33);
        x.weather(0, 1, 33);
        for (int i = 0; i < 10; i++) {
            x.weather(0, 0, 300);
        }
        x.weather(0, 0, 50);
        x.run(0, 3, 0);
        // 999999 is the most by each: behind ten times 300 of a hundred, half of it is left.
        Check.due("salt behind MONTH 0", x.pan(0, 0, 0), 499999);
        // 50 * 33 / 100 = 16, 16 * 33 / 100 = 5.
        Check.due("salt behind MONTH 1", x.pan(0, 1, 0), 499999 + 5);
        Check.due("salt behind MONTH 2", x.pan(0, 2, 0), 499999 + 5 + 50);
    }

    private static void forgedIsGone() {
        SaltOffice x = Check.office(Check.LAND, "rate 20;", 1000);
        // PAPER 1 is given in MONTH 2, waits, and would draw in MONTH 3.
        x.forged(1, 3);
        Check.due("run(0, 4, 0)", x.run(0, 4, 0), 3);
        Check.due("paper(1, 6)", x.paper(1, 6), -1);
        Check.due("paper(1, 7)", x.paper(1, 7), 1);
        Check.due("paper(1, 0)", x.paper(1, 0), 0);
        Check.due("it waits behind MONTH 2", x.pan(0, 2, 1), 100);
        // PAPER 2, given in MONTH 3, finds the salt that PAPER 1 left.
        Check.due("paper(2, 6)", x.paper(2, 6), 3);
        Check.due("nothing waits", x.ran(7), 0);
        // FORGED behind its drawing does nothing, and neither does one that is not there.
        x.untell(0);
        x.forged(0, 2);
        x.forged(1999, 0);
        x.run(0, 4, 0);
        Check.due("paper(0, 7)", x.paper(0, 7), 0);
        Check.due("paper(0, 6)", x.paper(0, 6), 1);
        // Of several the earliest; one given later is gone at once.
        x.forged(2, 9);
        x.forged(2, 1);
        x.run(0, 4, 0);
        Check.due("paper(2, 7)", x.paper(2, 7), 1);
        Check.due("paper(2, 3)", x.paper(2, 3), 3);
    }

    private static void deadLeave() {
        SaltOffice x = Check.office(Check.LAND, "rate 20;", 1000, 0);
        // As MONTH 3 begins MERCHANT 0 has 3850 coins, PAPER 1 that waits, and grain on its way.
        x.dead(0, 3, 1);
        Check.due("run(0, 4, 0)", x.run(0, 4, 0), 3);
        Check.due("book(0, 2, 0)", x.book(0, 2, 0), 3850);
        Check.due("book(0, 3, 0)", x.book(0, 3, 0), 0);
        Check.due("book(0, 3, 1)", x.book(0, 3, 1), -1);
        Check.due("book(0, 3, 2)", x.book(0, 3, 2), 0);
        Check.due("book(1, 3, 0)", x.book(1, 3, 0), 3850 - 250);
        Check.due("paper(0, 0), drawn before", x.paper(0, 0), 0);
        Check.due("paper(1, 0), that waited", x.paper(1, 0), 1);
        Check.due("paper(2, 0), that was on its way", x.paper(2, 0), 1);
        Check.due("the state has nothing of it", x.ran(2), 0);
        Check.due("way(0, 0)", x.way(0, 0), -1);
        Check.due("way(1, 0)", x.way(1, 0), 1);
        // An HEIR that is DEAD by then is nobody.
        x.dead(1, 3, -1);
        x.run(0, 4, 0);
        Check.due("the state has all", x.ran(2), 3850);
        // One who dies as the further MONTH begins takes no WAY in it.
        x.untell(0);
        x.untell(1);
        x.dead(0, 4, -1);
        x.run(0, 4, 0);
        Check.due("DEAD by the further MONTH", x.way(0, 0), -1);
        Check.due("but not yet in the last", x.book(0, 3, 1), 1);
        x.run(0, 3, 0);
        Check.due("not DEAD by then", x.way(0, 0), 1);
    }

    private static void deadToNobody() {
        SaltOffice x = Check.office(Check.LAND, "rate 20; tax 2;", 1000);
        // MONTH 2: 100 sacks on their way from MONTH 1 come, 36 each, less 2; both are the state's. PAPER 1 is not given.
        x.dead(0, 2, -1);
        Check.due("run(0, 3, 0)", x.run(0, 3, 0), 1);
        Check.due("coins of the state", x.ran(2), 500 + 100 * 36);
        Check.due("sold", x.ran(1), 100);
        Check.due("the grain comes", x.fort(0, 2, 0), 140);
        // What waits is gone: dead in MONTH 3, when PAPER 1 waits.
        x.untell(0);
        x.dead(0, 3, -1);
        Check.due("run(0, 4, 0)", x.run(0, 4, 0), 2);
        Check.due("paper(1, 7)", x.paper(1, 7), 1);
        Check.due("paper(1, 0)", x.paper(1, 0), -1);
        Check.due("paper(0, 7)", x.paper(0, 7), 0);
        Check.due("nothing waits", x.ran(6), 0);
    }

    private static void severalDead() {
        SaltOffice x = Check.office(Check.LAND, "", 100, 20, 3);
        x.dead(0, 5, 1);
        x.dead(0, 2, 1);
        x.dead(0, 2, 2);
        x.dead(0, 3, 1);
        x.run(0, 4, 0);
        Check.due("the earliest: MONTH 1", x.book(0, 1, 0), 100);
        Check.due("the earliest: MONTH 2", x.book(0, 2, 0), 0);
        Check.due("of like ones the last told", x.book(2, 2, 0), 103);
        // What came to an HEIR goes on to theirs.
        x.dead(2, 3, 1);
        x.run(0, 4, 0);
        Check.due("the HEIR's HEIR", x.book(1, 3, 0), 123);
        // An HEIR whose own MONTH it is as well is DEAD by then, whoever theirs is: so the document is taken here (NOTES.md).
        SaltOffice y = Check.office(Check.LAND, "", 100, 20, 3);
        y.dead(0, 1, 1);
        y.dead(1, 1, 2);
        y.run(0, 2, 0);
        Check.due("to the state", y.ran(2), 100);
        Check.due("to the HEIR of the other", y.book(2, 1, 0), 23);
    }
}
