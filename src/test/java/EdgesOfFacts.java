/** The boundary cases of the document's sentences on FACTS, and of promises 10 to 14. */
public final class EdgesOfFacts {
    private static final String PAN = "pan s at p0 makes 99 99 99 99 99 99 99 99 99 99 99 99 serves 0;";
    private static final String TOWN = "town t at p0 of 0 wants 0 price 50 grain 999 cost 1;";
    private static final String FORT = "fort f at p0 eats 0 store 0;";
    private static final String BUY = "coin (month=0);most 9999;";
    private static final int[] NO_MONTHS = {-1, 240, 241, Integer.MIN_VALUE, Integer.MAX_VALUE};

    public static void main(String[] args) {
        weatherRefused();
        forgedRefused();
        deadRefused();
        fortyFacts();
        factsNumbered();
        factsKeepRun();
        untellRefused();
        laterRefused();
        laterToTheEnd();
        knownAt();
        toldAndUntoldAtOneTime();
        untoldIsForGood();
        weatherOfAHundred();
        weatherOfItsMonth();
        weatherSeveral();
        weatherAtMost();
        forgedFromAMonth();
        forgedGivenLater();
        forgedBehindDrawing();
        forgedNumbers();
        deadFromAMonth();
        deadEarliest();
        deadLeavesCoins();
        deadLeavesPapers();
        deadLeavesLoads();
        deadLosesFarms();
        heirDeadByThen();
        nobodyGetsCoins();
        nobodyGetsPapers();
        forgedAndDeadInOneMonth();
        nobodyGetsLoads();
        deadInTheLastMonth();
        Check.done();
    }

    private static void weatherRefused() {
        Check.sentence("10: WEATHER (a MONTH 0 .. 239): its number; NONE, doing nothing, if it can't be (a PAN, 0 .. 300)");
        SaltOffice x = Check.office(PAN + PAN.replace("pan s", "pan r"), "");
        int[] pans = {-1, 2, 3, Integer.MIN_VALUE, Integer.MAX_VALUE};
        for (int pan : pans) {
            Check.due("weather(" + pan + ", 0, 100)", x.weather(pan, 0, 100), -1);
        }
        for (int month : NO_MONTHS) {
            Check.due("weather(0, " + month + ", 100)", x.weather(0, month, 100), -1);
        }
        int[] percents = {-1, 301, Integer.MIN_VALUE, Integer.MAX_VALUE};
        for (int percent : percents) {
            Check.due("weather(0, 0, " + percent + ")", x.weather(0, 0, percent), -1);
        }
        Check.due("no FACT", x.about(5), 0);
        Check.due("weather(0, 0, 0)", x.weather(0, 0, 0), 0);
        Check.due("weather(1, 239, 300)", x.weather(1, 239, 300), 1);
        x.run(0, 240, 0);
        Check.due("of a hundred 0 in MONTH 0", x.pan(0, 0, 0), 0);
        Check.due("of a hundred 300 in MONTH 239", x.pan(1, 239, 0), 239 * 99 + 297);
    }

    private static void forgedRefused() {
        Check.sentence("11: FORGED (a number 0 .. 1999): likewise");
        SaltOffice x = new SaltOffice();
        int[] papers = {-1, 2000, 2001, Integer.MIN_VALUE, Integer.MAX_VALUE};
        for (int paper : papers) {
            Check.due("forged(" + paper + ", 0)", x.forged(paper, 0), -1);
        }
        for (int month : NO_MONTHS) {
            Check.due("forged(0, " + month + ")", x.forged(0, month), -1);
        }
        Check.due("no FACT", x.about(5), 0);
        Check.due("forged(0, 0)", x.forged(0, 0), 0);
        Check.due("forged(1999, 239)", x.forged(1999, 239), 1);
        Check.due("forged(1440, 0)", x.forged(1440, 0), 2);
        Check.due("run(0, 240, 0)", x.run(0, 240, 0), 0);
    }

    private static void deadRefused() {
        Check.sentence("12: DEAD (the HEIR another MERCHANT, or NONE): likewise");
        SaltOffice x = new SaltOffice();
        Check.due("without MERCHANTS", x.dead(0, 0, -1), -1);
        x.merchant(1);
        Check.due("oneself", x.dead(0, 0, 0), -1);
        Check.due("no such HEIR yet", x.dead(0, 0, 1), -1);
        x.merchant(2);
        int[] wrong = {-1, 2, 6, Integer.MIN_VALUE, Integer.MAX_VALUE};
        for (int merchant : wrong) {
            Check.due("dead(" + merchant + ", 0, 0)", x.dead(merchant, 0, 0), -1);
            Check.due("dead(" + merchant + ", 0, -1)", x.dead(merchant, 0, -1), -1);
        }
        int[] heirs = {-2, 2, 6, 1, Integer.MIN_VALUE, Integer.MAX_VALUE};
        for (int heir : heirs) {
            Check.due("dead(1, 0, " + heir + ")", x.dead(1, 0, heir), -1);
        }
        for (int month : NO_MONTHS) {
            Check.due("dead(0, " + month + ", 1)", x.dead(0, month, 1), -1);
        }
        Check.due("no FACT", x.about(5), 0);
        Check.due("dead(0, 0, 1)", x.dead(0, 0, 1), 0);
        Check.due("dead(1, 239, -1)", x.dead(1, 239, -1), 1);
    }

    private static void fortyFacts() {
        Check.sentence("10, 11, 12: NONE, doing nothing, .. or there are 40; FACTS, 40 at most");
        for (int kind = 0; kind < 3; kind++) {
            SaltOffice x = Check.office(PAN, "", 5);
            for (int i = 0; i < 40; i++) {
                Check.due("fact " + i, tell(x, kind), i);
                Check.due("about(5)", x.about(5), i + 1);
            }
            for (int other = 0; other < 3; other++) {
                Check.due("a 41st", tell(x, other), -1);
            }
            Check.due("about(5)", x.about(5), 40);
            // One that is UNTOLD is a FACT still, and a later TIME brings no room.
            Check.due("untell(39)", x.untell(39), true);
            x.later(1);
            Check.due("a 41st, one being UNTOLD", tell(x, kind), -1);
            Check.due("untell(40)", x.untell(40), false);
            // Another LAND does.
            x.land();
            Check.due("the first of another LAND", x.forged(0, 0), 0);
        }
    }

    private static int tell(SaltOffice x, int kind) {
        return kind == 0 ? x.weather(0, 3, 50) : kind == 1 ? x.forged(7, 3) : x.dead(0, 3, -1);
    }

    private static void factsNumbered() {
        Check.sentence("10: A FACT: .. its number");
        SaltOffice x = Check.office(PAN, "", 5);
        Check.due("weather", x.weather(0, 0, 1), 0);
        Check.due("a refused one", x.forged(-1, 0), -1);
        Check.due("dead", x.dead(0, 0, -1), 1);
        Check.due("the same again", x.weather(0, 0, 1), 2);
        x.untell(2);
        Check.due("behind an UNTOLD one", x.forged(0, 0), 3);
    }

    private static void factsKeepRun() {
        Check.sentence("10: A FACT; 13: It is UNTOLD; 14: So much later (none of them ends what was run)");
        SaltOffice x = Check.office(PAN, "", 5);
        x.run(0, 3, 0);
        x.weather(0, 0, 0);
        x.forged(0, 0);
        x.dead(0, 0, -1);
        x.untell(1);
        x.later(4);
        Check.due("ran(10)", x.ran(10), 3);
        Check.due("pan(0, 0, 0)", x.pan(0, 0, 0), 99);
        Check.due("book(0, 0, 1)", x.book(0, 0, 1), 0);
        Check.due("way(0, 0)", x.way(0, 0), 0);
    }

    private static void untellRefused() {
        Check.sentence("13: It is UNTOLD: true; false if it is so already, or there is none such.");
        SaltOffice x = Check.office(PAN, "");
        Check.due("without FACTS", x.untell(0), false);
        x.weather(0, 0, 50);
        x.weather(0, 0, 50);
        int[] wrong = {-1, 2, 40, Integer.MIN_VALUE, Integer.MAX_VALUE};
        for (int fact : wrong) {
            Check.due("untell(" + fact + ")", x.untell(fact), false);
        }
        x.run(0, 1, 0);
        Check.due("both count", x.pan(0, 0, 0), 24);
        Check.due("untell(1)", x.untell(1), true);
        Check.due("untell(1) again", x.untell(1), false);
        x.later(5);
        Check.due("untell(1) later", x.untell(1), false);
        Check.due("untell(0)", x.untell(0), true);
        // Its TIME is that of the first untelling: 0, not 5.
        x.run(0, 1, 3);
        Check.due("the first counts at 3, the second does not", x.pan(0, 0, 0), 49);
    }

    private static void laterRefused() {
        Check.sentence("14: So much later (0 .. 1000): the TIME; NONE, doing nothing, for another number");
        SaltOffice x = new SaltOffice();
        int[] wrong = {-1, 1001, Integer.MIN_VALUE, Integer.MAX_VALUE};
        for (int by : wrong) {
            Check.due("later(" + by + ")", x.later(by), -1);
            Check.due("about(6)", x.about(6), 0);
        }
        Check.due("later(0)", x.later(0), 0);
        Check.due("later(1000)", x.later(1000), 1000);
        Check.due("later(0)", x.later(0), 1000);
        Check.due("about(6)", x.about(6), 1000);
        Check.due("later(1001)", x.later(1001), -1);
        Check.due("about(6)", x.about(6), 1000);
    }

    private static void laterToTheEnd() {
        Check.sentence("14: NONE, doing nothing, .. if it would be above 100,000.");
        SaltOffice x = Check.office(PAN, "");
        for (int i = 1; i <= 99; i++) {
            Check.due("later(1000)", x.later(1000), 1000 * i);
        }
        Check.due("later(999)", x.later(999), 99999);
        Check.due("later(2)", x.later(2), -1);
        Check.due("later(1000)", x.later(1000), -1);
        Check.due("about(6)", x.about(6), 99999);
        Check.due("later(1)", x.later(1), 100000);
        Check.due("later(1)", x.later(1), -1);
        Check.due("later(0)", x.later(0), 100000);
        x.weather(0, 0, 0);
        x.run(0, 1, 99999);
        Check.due("not known at 99999", x.pan(0, 0, 0), 99);
        x.run(0, 1, 100000);
        Check.due("known at 100000", x.pan(0, 0, 0), 0);
    }

    private static void knownAt() {
        Check.sentence("FACTS, 40 at most, TOLD at a TIME (0 at first, goes on), UNTOLD at a later one or the same, count as known at k");
        SaltOffice x = Check.office(PAN + TOWN, BUY, 20);
        x.costs(0, 1, 0, 9999, 999);
        x.later(10);
        x.weather(0, 0, 0);
        x.forged(0, 0);
        x.dead(0, 1, -1);
        x.later(7);
        x.untell(0);
        x.untell(1);
        x.untell(2);
        int[] times = {-1, 0, 9, 10, 11, 16, 17, 18, 1000};
        for (int k : times) {
            boolean known = k >= 10 && k < 17;
            x.run(0, 2, k);
            Check.due("WEATHER at " + k, x.pan(0, 0, 0), known ? 0 : 99);
            Check.due("FORGED at " + k, x.paper(0, 7), known ? 1 : 0);
            Check.due("DEAD at " + k, x.book(0, 1, 1), known ? -1 : 0);
            Check.due("judge at " + k, x.judge(0, 0, 2, k), 2);
        }
    }

    private static void toldAndUntoldAtOneTime() {
        Check.sentence("FACTS .. UNTOLD at a later one or the same");
        SaltOffice x = Check.office(PAN, "");
        x.later(5);
        x.weather(0, 0, 0);
        x.untell(0);
        for (int k = 3; k < 8; k++) {
            x.run(0, 1, k);
            Check.due("at " + k, x.pan(0, 0, 0), 99);
        }
    }

    private static void untoldIsForGood() {
        Check.sentence("FACTS .. count as known at k");
        SaltOffice x = Check.office(PAN, "");
        x.weather(0, 0, 50);
        x.later(1);
        x.untell(0);
        x.later(1);
        x.weather(0, 0, 200);
        x.later(1);
        x.weather(0, 0, 0);
        int[] want = {49, 99, 198, 0, 0};
        for (int k = 0; k < 5; k++) {
            x.run(0, 1, k);
            Check.due("at " + k, x.pan(0, 0, 0), want[k]);
        }
    }

    private static void weatherOfAHundred() {
        Check.sentence("WEATHER: a PAN makes so many of a hundred (0 .. 300; cut) in a MONTH of the run");
        int[][] cases = {{0, 0}, {1, 0}, {2, 1}, {50, 49}, {99, 98}, {100, 99}, {101, 99}, {102, 100}, {200, 198}, {299, 296}, {300, 297}};
        for (int[] c : cases) {
            SaltOffice x = Check.office(PAN, "");
            x.weather(0, 0, c[0]);
            x.run(0, 1, 0);
            Check.due("of a hundred " + c[0], x.pan(0, 0, 0), c[1]);
        }
    }

    private static void weatherOfItsMonth() {
        Check.sentence("WEATHER: .. in a MONTH of the run");
        SaltOffice x = Check.office(PAN + PAN.replace("pan s", "pan r"), "");
        x.weather(0, 13, 0);
        x.run(0, 26, 0);
        for (int m = 0; m < 26; m++) {
            Check.due("the PAN in MONTH " + m, x.pan(0, m, 0), 99 * (m < 13 ? m + 1 : m));
            Check.due("the other in MONTH " + m, x.pan(1, m, 0), 99 * (m + 1));
        }
        // One of a MONTH behind the RUN does nothing, nor does it to WORTH's a.
        x.run(0, 13, 0);
        Check.due("a MONTH behind it", x.pan(0, 12, 0), 13 * 99);
    }

    private static void weatherSeveral() {
        Check.sentence("WEATHER .. (several: one behind the other, as told ..)");
        // 99 by 50 is 49, by 3 is 1, by 300 is 3; 99 by 300 is 297, by 3 is 8, by 50 is 4.
        int[][] cases = {{50, 3, 300, 3}, {300, 3, 50, 4}, {3, 50, 300, 3}, {0, 300, 300, 0}, {300, 300, 300, 2673}};
        for (int[] c : cases) {
            SaltOffice x = Check.office(PAN, "");
            for (int i = 0; i < 3; i++) {
                x.weather(0, 0, c[i]);
                x.later(1);
            }
            x.run(0, 1, 3);
            Check.due(c[0] + ", " + c[1] + ", " + c[2], x.pan(0, 0, 0), c[3]);
        }
    }

    private static void weatherAtMost() {
        Check.sentence("WEATHER .. (.. 999999 at most by each)");
        // 999 times 3 to the power of 6 is 728271, of 7 is above.
        int made = 999;
        for (int n = 0; n <= 9; n++) {
            SaltOffice x = Check.office(PAN.replace("makes 99", "makes 999"), "");
            for (int i = 0; i < n; i++) {
                x.weather(0, 0, 300);
            }
            x.run(0, 1, 0);
            Check.due(n + " times 300", x.pan(0, 0, 0), made);
            x.weather(0, 0, 10);
            x.run(0, 1, 0);
            Check.due("and then 10", x.pan(0, 0, 0), made / 10);
            made = Math.min(999999, 3 * made);
        }
        // All forty of them: no wrap.
        SaltOffice y = Check.office(PAN.replace("makes 99", "makes 999"), "");
        for (int i = 0; i < 40; i++) {
            y.weather(0, 0, 300);
        }
        y.run(0, 2, 0);
        Check.due("forty times", y.pan(0, 0, 0), 999999);
        Check.due("in the next MONTH", y.pan(0, 1, 0), 999999 + 99);
    }

    /** A PAPER for 10 sacks is bought in MONTH 0; salt for it comes in MONTH 3. */
    private static SaltOffice waits() {
        SaltOffice x = Check.office("pan s at p0 makes 0 0 0 10 0 0 0 0 0 0 0 0 serves 0;" + TOWN, BUY, 10);
        x.costs(0, 1, 0, 9999, 999);
        return x;
    }

    private static void forgedFromAMonth() {
        Check.sentence("FORGED: the PAPER of a number (from 0 on, as given) is gone from a MONTH on (as it begins, ahead of (c) ..)");
        int[][] cases = {{1, -1, 1}, {2, -1, 1}, {3, -1, 1}, {4, 3, 0}, {239, 3, 0}};
        for (int[] c : cases) {
            SaltOffice x = waits();
            x.forged(0, c[0]);
            Check.due("given all the same", x.run(0, 5, 0), 1);
            Check.due("drew, FORGED from " + c[0], x.paper(0, 6), c[1]);
            Check.due("gone, FORGED from " + c[0], x.paper(0, 7), c[2]);
            Check.due("who had it", x.paper(0, 0), 0);
            Check.due("salt that is left", x.pan(0, 4, 0), c[2] * 10);
            Check.due("waits no more", x.ran(6), 0);
            Check.due("waits no more: sacks", x.ran(7), 0);
            Check.due("drawn", x.ran(9), 1 - c[2]);
            for (int m = 0; m < 5; m++) {
                Check.due("sacks that wait in MONTH " + m, x.pan(0, m, 1), m < Math.min(3, c[0]) ? 10 : 0);
            }
        }
        // Ahead of (a) and of what is told behind it: the tax is by what waits.
        SaltOffice y = waits();
        Check.reform(y, 1, BUY + "tax waiting;");
        y.forged(0, 2);
        y.run(1, 2, 0);
        Check.due("the tax while it waits", y.worth(0), 50 - 10);
        y.run(1, 3, 0);
        Check.due("the tax when it is gone", y.worth(0), 50);
    }

    private static void forgedGivenLater() {
        Check.sentence("FORGED .. (.. a PAPER given later: at once)");
        SaltOffice x = waits();
        x.forged(0, 0);
        Check.due("run(0, 1, 0)", x.run(0, 1, 0), 1);
        Check.due("bought in the same MONTH", x.paper(0, 7), 1);
        Check.due("sacks that wait", x.pan(0, 0, 1), 0);
        Check.due("paid all the same", x.ran(2), 10);
        // One that comes by grain in MONTH 1 does not even draw in it.
        SaltOffice y = Check.office(FORT + PAN + TOWN, "rate (month=0);", 10);
        y.costs(0, 1, 0, 9999, 999);
        y.forged(0, 1);
        y.run(0, 3, 0);
        Check.due("given in MONTH 1", y.paper(0, 3), 1);
        Check.due("gone at once", y.paper(0, 7), 1);
        Check.due("never drew", y.paper(0, 6), -1);
        Check.due("the grain came", y.fort(0, 1, 0), 10);
        Check.due("nothing was sold", y.ran(1), 0);
    }

    private static void forgedBehindDrawing() {
        Check.sentence("FORGED: the PAPER .. is gone from a MONTH on (what was drawn is gone no more)");
        SaltOffice x = waits();
        x.forged(0, 4);
        x.run(0, 6, 0);
        Check.due("paper(0, 6)", x.paper(0, 6), 3);
        Check.due("paper(0, 7)", x.paper(0, 7), 0);
        Check.due("sold", x.ran(1), 10);
    }

    private static void forgedNumbers() {
        Check.sentence("FORGED: the PAPER of a number (from 0 on, as given)");
        SaltOffice x = Check.office("pan s at p0 makes" + Check.times(" 0", 12) + " serves 0;" + TOWN, "coin 1;most 9999;", 30000, 30000, 30000, 30000, 30000, 30000);
        x.costs(0, 1, 0, 9999, 999);
        x.forged(0, 0);
        x.forged(1439, 0);
        x.forged(7, 100);
        x.forged(7, 5);
        x.forged(1440, 0);
        x.forged(1999, 0);
        Check.due("run(0, 240, 0)", x.run(0, 240, 0), 1440);
        Check.due("the first", x.paper(0, 7), 1);
        Check.due("the second", x.paper(1, 7), 0);
        Check.due("of several the earliest", x.paper(7, 7), 1);
        Check.due("the last but one", x.paper(1438, 7), 0);
        Check.due("the last", x.paper(1439, 7), 1);
        Check.due("wait", x.ran(6), 1437);
        x.run(0, 5, 0);
        Check.due("not yet", x.paper(7, 7), 0);
        x.run(0, 6, 0);
        Check.due("from MONTH 5 on", x.paper(7, 7), 1);
    }

    private static void deadFromAMonth() {
        Check.sentence("DEAD: a MERCHANT from a MONTH on: does nothing in (e); 20: the WAY taken in it (1; NONE if DEAD), what it GAINED (2; 0 if DEAD)");
        int[] months = {0, 1, 3, 4};
        for (int from : months) {
            SaltOffice x = Check.office(FORT + PAN + TOWN, "rate 1;", 1000);
            x.costs(0, 1, 0, 9999, 999);
            x.dead(0, from, -1);
            x.run(0, 5, 0);
            for (int m = 0; m < 5; m++) {
                Check.due("WAY in MONTH " + m + ", DEAD from " + from, x.book(0, m, 1), m < from ? 1 : -1);
                Check.due("GAIN in MONTH " + m, x.book(0, m, 2), m < from ? 40 : 0);
                Check.due("COINS in MONTH " + m, x.book(0, m, 0) > 0, m < from);
            }
        }
        SaltOffice y = Check.office(FORT + PAN + TOWN, "rate 1;", 1000);
        y.dead(0, 239, -1);
        y.run(0, 240, 0);
        Check.due("MONTH 238", y.book(0, 238, 1), 1);
        Check.due("MONTH 239", y.book(0, 239, 1), -1);
    }

    private static void deadEarliest() {
        Check.sentence("DEAD .. (of several the earliest, of like ones the last told)");
        SaltOffice x = Check.office("", "", 100, 20, 3);
        x.dead(0, 2, 1);
        x.dead(0, 1, 1);
        x.dead(0, 1, 2);
        x.dead(0, 3, 1);
        x.run(0, 4, 0);
        Check.due("alive in MONTH 0", x.book(0, 0, 1), 0);
        Check.due("DEAD in MONTH 1", x.book(0, 1, 1), -1);
        Check.due("the last told's HEIR", x.book(2, 1, 0), 103);
        Check.due("not the first told's", x.book(1, 3, 0), 20);
        // When the last told is UNTOLD the one before it counts, and without both the later MONTH.
        x.untell(2);
        x.run(0, 4, 0);
        Check.due("the one before", x.book(1, 1, 0), 120);
        x.untell(1);
        x.run(0, 4, 0);
        Check.due("alive in MONTH 1", x.book(0, 1, 0), 100);
        Check.due("DEAD in MONTH 2", x.book(1, 2, 0), 120);
        // Of like ones the last told may have no HEIR at all.
        x.dead(0, 2, -1);
        x.run(0, 4, 0);
        Check.due("to the state", x.ran(2), 100);
    }

    private static void deadLeavesCoins() {
        Check.sentence("DEAD: .. as that MONTH begins COINS .. go to the HEIR");
        SaltOffice x = Check.office(FORT + PAN + TOWN, "rate (month=1);", 0, 10, 0);
        x.costs(0, 1, 0, 9999, 999);
        x.dead(1, 1, 0);
        x.run(0, 2, 0);
        Check.due("before", x.book(0, 0, 0), 0);
        // The HEIR's coins do for a WAY in the same MONTH.
        Check.due("the HEIR's WAY in that MONTH", x.book(0, 1, 1), 1);
        Check.due("the DEAD one's COINS", x.book(1, 1, 0), 0);
        Check.due("the state's", x.ran(2), 0);
        // In MONTH 0, from the beginning.
        SaltOffice y = Check.office("", "", 7, 30000);
        y.dead(1, 0, 0);
        y.run(0, 1, 0);
        Check.due("all of them", y.book(0, 0, 0), 30007);
    }

    private static void deadLeavesPapers() {
        Check.sentence("DEAD: .. PAPERS that wait .. go to the HEIR");
        SaltOffice x = Check.office("pan s at p0 makes 0 10 0 0 10 0 0 0 0 0 0 0 serves 0;" + TOWN, "coin (month<2);most 20;", 20, 0);
        x.costs(0, 1, 0, 9999, 999);
        // PAPER 0 draws in MONTH 1, PAPER 1, bought in MONTH 1, waits until MONTH 4.
        x.dead(0, 3, 1);
        x.run(0, 6, 0);
        Check.due("drawn before", x.paper(0, 0), 0);
        Check.due("waited", x.paper(1, 0), 1);
        Check.due("drew", x.paper(1, 6), 4);
        Check.due("is not gone", x.paper(1, 7), 0);
        // The DEAD one sold ten in MONTH 2; both sales are the HEIR's in the end.
        Check.due("the HEIR's coins", x.book(1, 5, 0), 1000);
        // In the MONTH of the drawing it is the HEIR's already.
        SaltOffice y = waits();
        y.merchant(0);
        y.dead(0, 3, 1);
        y.run(0, 4, 0);
        Check.due("as that MONTH begins", y.paper(0, 0), 1);
        SaltOffice z = waits();
        z.merchant(0);
        z.dead(0, 4, 1);
        z.run(0, 6, 0);
        Check.due("drawn a MONTH before", z.paper(0, 0), 0);
        Check.due("its sacks are the HEIR's", z.book(1, 4, 0), 500);
    }

    private static void deadLeavesLoads() {
        Check.sentence("DEAD: .. and what is on its way go to the HEIR");
        SaltOffice x = Check.office("road p0 p1 61;" + FORT + PAN + TOWN.replace("at p0", "at p1"), "rate (month=0);", 10, 0);
        x.costs(0, 1, 0, 9999, 999);
        // Grain is on its way from MONTH 0 to 3, salt from 3 to 6.
        int[][] cases = {{1, 1}, {2, 1}, {3, 1}, {4, 0}, {5, 0}, {6, 0}, {7, 0}};
        for (int[] c : cases) {
            x.dead(0, c[0], 1);
            x.run(0, 8, 0);
            Check.due("PAPER, DEAD from " + c[0], x.paper(0, 0), c[1]);
            Check.due("coins of the HEIR, DEAD from " + c[0], x.book(1, 7, 0), 50);
            Check.due("coins of the DEAD one in MONTH 6", x.book(0, 6, 0), c[0] == 7 ? 50 : 0);
            x.untell(x.about(5) - 1);
        }
    }

    private static void deadLosesFarms() {
        Check.sentence("DEAD: .. FARMS are gone");
        SaltOffice x = Check.office(FORT + PAN + TOWN.replace("grain 999", "grain 0"), "rate 1*(month=0);", 1000, 0);
        x.costs(0, 1, 0, 10, 1);
        x.dead(0, 1, 1);
        x.run(0, 26, 0);
        Check.due("founded", x.book(0, 0, 1), 3);
        Check.due("the HEIR has none in MONTH 12, and founds", x.book(1, 12, 1), 3);
        Check.due("and farms in MONTH 24", x.book(1, 24, 1), 2);
        // One's own FARM is not touched by another's death.
        SaltOffice y = Check.office(FORT + PAN + TOWN.replace("grain 999", "grain 0"), "rate 1*(month=0);", 1000, 1000);
        y.costs(0, 1, 0, 10, 1);
        y.dead(0, 1, 1);
        y.run(0, 13, 0);
        Check.due("the HEIR's own", y.book(1, 12, 1), 2);
    }

    private static void heirDeadByThen() {
        Check.sentence("the HEIR (one not DEAD by then; else to nobody ..)");
        int[][] cases = {{0, 100}, {1, 100}, {2, 0}, {3, 0}};
        for (int[] c : cases) {
            SaltOffice x = Check.office("", "", 100, 20, 3);
            x.dead(0, 1, 1);
            x.dead(1, c[0], 2);
            x.run(0, 4, 0);
            // Where the HEIR dies later it all goes on to theirs.
            Check.due("the state's, HEIR DEAD from " + c[0], x.ran(2), c[1]);
            Check.due("the HEIR's HEIR's", x.book(2, 3, 0), 123 - c[1]);
        }
        // Each the other's HEIR, in one MONTH: to nobody.
        SaltOffice y = Check.office("", "", 100, 20);
        y.dead(0, 1, 1);
        y.dead(1, 1, 0);
        y.run(0, 2, 0);
        Check.due("the state's", y.ran(2), 120);
        // One DEAD as known at another TIME is not DEAD.
        SaltOffice z = Check.office("", "", 100, 20);
        z.dead(0, 1, 1);
        z.later(1);
        z.dead(1, 0, -1);
        z.run(0, 2, 0);
        Check.due("not DEAD as known at 0", z.book(1, 1, 0), 120);
        z.run(0, 2, 1);
        Check.due("DEAD as known at 1", z.ran(2), 120);
    }

    private static void nobodyGetsCoins() {
        Check.sentence("else to nobody: COINS to the state");
        SaltOffice x = Check.office("", "", 0, 30000, 5);
        x.dead(0, 1, -1);
        x.dead(1, 1, -1);
        x.run(0, 1, 0);
        Check.due("before", x.ran(2), 0);
        x.run(0, 2, 0);
        Check.due("the state's", x.ran(2), 30000);
        Check.due("the others'", x.book(2, 1, 0), 5);
    }

    private static void nobodyGetsPapers() {
        Check.sentence("else to nobody: .. PAPERS gone; 21: 0: the MERCHANT who has it (or had it; NONE nobody), 7: 1 if it is gone as FORGED or with nobody");
        SaltOffice x = waits();
        x.dead(0, 2, -1);
        x.run(0, 5, 0);
        Check.due("paper(0, 0)", x.paper(0, 0), -1);
        Check.due("paper(0, 7)", x.paper(0, 7), 1);
        Check.due("paper(0, 6)", x.paper(0, 6), -1);
        Check.due("waits in MONTH 1", x.pan(0, 1, 1), 10);
        Check.due("waits in MONTH 2", x.pan(0, 2, 1), 0);
        Check.due("wait", x.ran(6), 0);
        Check.due("none is LOST", x.ran(5), 0);
        Check.due("the salt stays", x.pan(0, 4, 0), 10);
        // In the MONTH of the drawing it is gone as the MONTH begins; drawn before, it stays who had it.
        SaltOffice y = waits();
        y.dead(0, 3, -1);
        y.run(0, 5, 0);
        Check.due("gone ahead of (c)", y.paper(0, 7), 1);
        SaltOffice z = waits();
        z.dead(0, 4, -1);
        z.run(0, 5, 0);
        Check.due("drawn before: who had it", z.paper(0, 0), 0);
        Check.due("drawn before: not gone", z.paper(0, 7), 0);
    }

    private static void forgedAndDeadInOneMonth() {
        Check.sentence("FORGED: .. gone from a MONTH on (as it begins ..); DEAD: .. as that MONTH begins .. PAPERS that wait .. go to the HEIR");
        // What is FORGED from that MONTH on waits no more as the DEAD one's things are left: so the document is taken here (NOTES.md).
        int[] heirs = {1, -1};
        for (int heir : heirs) {
            SaltOffice x = waits();
            x.merchant(0);
            x.dead(0, 2, heir);
            x.forged(0, 2);
            x.run(0, 3, 0);
            Check.due("who had it", x.paper(0, 0), 0);
            Check.due("gone", x.paper(0, 7), 1);
        }
    }

    private static void nobodyGetsLoads() {
        Check.sentence("else to nobody: .. what comes later brings its grain, its salt, but no PAPER, and its coins to the state");
        SaltOffice x = Check.office("road p0 p1 61;" + FORT + PAN + TOWN.replace("at p0", "at p1"), "rate (month=0);tax 3;", 10);
        x.costs(0, 1, 0, 9999, 999);
        // Grain is on its way from MONTH 0 to 3.
        x.dead(0, 1, -1);
        Check.due("no PAPER", x.run(0, 8, 0), 0);
        Check.due("its grain", x.fort(0, 3, 0), 10);
        Check.due("the state has nothing of it", x.ran(2), 0);
        // Salt from MONTH 3 to 6: one sack, at 50.
        x.untell(0);
        x.dead(0, 4, -1);
        Check.due("its PAPER", x.run(0, 8, 0), 1);
        Check.due("its salt", x.town(0, 6, 0), 1);
        Check.due("sold", x.ran(1), 1);
        Check.due("its coins and the tax are the state's", x.ran(2), 50);
        Check.due("the DEAD one's", x.book(0, 6, 0), 0);
    }

    private static void deadInTheLastMonth() {
        Check.sentence("DEAD: a MERCHANT from a MONTH on (of a MONTH that the RUN does not reach: not at all)");
        SaltOffice x = Check.office("", "", 100);
        x.dead(0, 3, -1);
        x.run(0, 3, 0);
        Check.due("the RUN of 3 MONTHS ends before it", x.ran(2), 0);
        Check.due("COINS", x.book(0, 2, 0), 100);
        x.run(0, 4, 0);
        Check.due("the RUN of 4 MONTHS", x.ran(2), 100);
        Check.due("COINS", x.book(0, 3, 0), 0);
    }
}
