/** The boundary cases of the document's sentences on LANDS: TOKENS, lines, numbers, NAMES, FAULTS. */
public final class EdgesOfLands {
    private static final String TWELVE = " 1 1 1 1 1 1 1 1 1 1 1 1";
    private static final String ROAD = "road p0 p1 1;";
    private static final String FORT = "fort a at p0 eats 1 store 1;";
    private static final String PAN = "pan a at p0 makes" + TWELVE + " serves 1;";
    private static final String TOWN = "town a at p0 of 0 wants 1 price 1 grain 1 cost 1;";
    private static final String OWN_WORDS = "road fort at eats store pan makes serves town of wants price grain cost rate class coin most tax guard "
        + "and or not year month need days waiting age sacks bought made";

    public static void main(String[] args) {
        everyByte();
        wordsOfEight();
        numbersOfFour();
        places();
        placesWithSomethingBehind();
        blanksOrNot();
        asLongAsCanBe();
        letterBehindNumber();
        wordsThatAreNoNames();
        tooManyOfASort();
        oneLandBehindAnother();
        numbersInRange();
        numbersAreKept();
        placesOfARoad();
        districtsOnce();
        numberedAsTold();
        nameToldAlready();
        firstByPlace();
        atTheEnd();
        leastAtOnePlace();
        whatCannotStandThere();
        monthsOfAWay();
        Check.done();
    }

    private static void everyByte() {
        Check.sentence("TOKENS: words (a .. z), N, P, signs ; ( ) < > = + - * /; blanks (32, 10)");
        for (int b = 0; b < 256; b++) {
            char c = (char) b;
            String line = ROAD + c;
            boolean token = c >= 'a' && c <= 'z' || c >= '0' && c <= '9' || ";()<>=+-*/".indexOf(c) >= 0;
            if (c == ' ' || c == '\n') {
                Check.landGood(line, 1);
                Check.landGood(ROAD.replace(' ', c), 1);
            } else {
                Check.landFault(line, token ? 2 : 1, 13);
            }
        }
    }

    private static void wordsOfEight() {
        Check.sentence("TOKENS: words (a .. z, 8 at most)");
        Check.landGood("fort a at p0 eats 1 store 1;fort abcdefgh at p0 eats 1 store 1;fort zzzzzzzz at p0 eats 1 store 1;", 3);
        Check.landFault("fort abcdefghi at p0 eats 1 store 1;", 1, 5);
        Check.landFault("fort zzzzzzzzz at p0 eats 1 store 1;", 1, 5);
        Check.landFault("abcdefgh", 2, 0);
        Check.landFault("abcdefghi", 1, 0);
        Check.landFault("roadroadr p0 p1 1;", 1, 0);
        Check.landFault("fort a " + Check.times("x", 200) + ";", 1, 7);
    }

    private static void numbersOfFour() {
        Check.sentence("TOKENS: N (1 to 4 digits)");
        Check.landGood("fort a at p0 eats 1 store 9999;", 1);
        Check.landGood("fort a at p0 eats 0000 store 0;", 1);
        Check.landGood("road p0 p1 0090;", 1);
        Check.landFault("road p0 p1 00090;", 1, 11);
        Check.landFault("fort a at p0 eats 1 store 10000;", 1, 26);
        Check.landFault("fort a at p0 eats 1 store 00000;", 1, 26);
        Check.landFault("fort a at p0 eats 1 store " + Check.times("9", 40) + ";", 1, 26);
        // 2 to the power of 32, and one more: as an int that wraps it would do.
        Check.landFault("road p0 p1 4294967297;", 1, 11);
        Check.landFault("12345", 1, 0);
        Check.landFault("1234", 2, 0);
    }

    private static void places() {
        Check.sentence("TOKENS: P (p and one or two digits, 0 .. 15)");
        for (int p = 0; p <= 99; p++) {
            String two = (p < 10 ? "0" : "") + p;
            if (p == 3) {
                Check.landFault("road p3 p03 1;", 4, 8);
            } else if (p <= 15) {
                SaltOffice x = new SaltOffice();
                Check.due("p" + two, Check.land(x, "road p3 p" + two + " 7;"), 1);
                Check.due("its number", x.days(3, p), 7);
                Check.landGood("road p3 p" + p + " 7;", 1);
                Check.landGood("road p" + two + " p3 7;", 1);
            } else {
                Check.landFault("road p3 p" + p + " 7;", 2, 8);
                Check.landFault("road p" + p + " p3 7;", 2, 5);
                Check.landFault("fort a at p" + p + " eats 1 store 1;", 2, 10);
            }
        }
        Check.landFault("road p3 p 7;", 2, 8);
        Check.landFault("road p3 q1 7;", 2, 8);
        Check.landFault("road p3 P1 7;", 1, 8);
        Check.landFault("road p3 pp1 7;", 2, 8);
        Check.landFault("road p3 p 1 7;", 2, 8);
    }

    private static void placesWithSomethingBehind() {
        Check.sentence("TOKENS: P (.. no letter or digit behind)");
        Check.landFault("road p0 p001 1;", 2, 8);
        Check.landFault("road p0 p111 1;", 2, 8);
        Check.landFault("road p0 p1a 1;", 2, 8);
        Check.landFault("road p0 p15z 1;", 2, 8);
        Check.landFault("road p0p1 1;", 2, 5);
        // Then it is the word p, which may be a NAME, and what is behind it stands for itself.
        Check.landFault("fort p1 at p0 eats 1 store 1;", 2, 5);
        Check.landFault("fort p16 at p0 eats 1 store 1;", 2, 6);
        Check.landFault("fort p111 at p0 eats 1 store 1;", 2, 6);
        Check.landFault("fort p1a at p0 eats 1 store 1;", 1, 6);
        Check.landFault("fort p12345 at p0 eats 1 store 1;", 1, 6);
        Check.landGood("fort p at p0 eats 1 store 1;", 1);
        Check.landFault("road p0 p1;", 2, 10);
        Check.landFault("road p0 p15(", 2, 11);
    }

    private static void blanksOrNot() {
        Check.sentence("TOKENS: blanks (32, 10) part them or not");
        Check.landGood(ROAD + FORT + PAN.replace("a at", "b at") + TOWN.replace("a at", "c at"), 4);
        Check.landGood("\n " + ROAD.replace(" ", " \n\n ").replace(";", "\n;\n"), 1);
        Check.landGood("fort a at p0 eats1 store2;", 1);
        Check.landGood("pan a at p0 makes1" + TWELVE.substring(2) + " serves0 1;", 1);
        Check.landGood("town a at p0 of0 wants1 price1 grain1 cost1;", 1);
        Check.landFault("road\tp0 p1 1;", 1, 4);
        Check.landFault("road p0 p1 1;\r\n", 1, 13);
    }

    private static void asLongAsCanBe() {
        Check.sentence("TOKENS: each is as long as can be");
        Check.landFault("roadp0 p1 1;", 2, 0);
        Check.landFault("ro ad p0 p1 1;", 2, 0);
        Check.landFault("forta at p0 eats 1 store 1;", 2, 0);
        Check.landFault("fort aat p0 eats 1 store 1;", 2, 9);
        Check.landFault("road p0 p11;", 2, 11);
        Check.landFault("pan a at p0 makes 11 1 1 1 1 1 1 1 1 1 1 serves 1;", 2, 41);
    }

    private static void letterBehindNumber() {
        Check.sentence("TOKENS: no letter directly behind an N");
        Check.landFault("road p0 p1 1a;", 1, 11);
        Check.landFault("road p0 p1 1z", 1, 11);
        Check.landFault("fort a at p0 eats 1store 1;", 1, 18);
        Check.landFault("pan a at p0 makes" + TWELVE + "serves 1;", 1, 40);
        Check.landFault("1a", 1, 0);
        Check.landFault("1234a", 1, 0);
        Check.landGood("pan a at p0 makes" + TWELVE + " serves 1;", 1);
    }

    private static void wordsThatAreNoNames() {
        Check.sentence("TOKENS: Words that stand for themselves here and in REFORMS are no NAMES.");
        for (String word : OWN_WORDS.split(" ")) {
            Check.landFault(FORT.replace("a at", word + " at"), 2, 5);
            Check.landFault(PAN.replace("a at", word + " at"), 2, 4);
            Check.landFault(TOWN.replace("a at", word + " at"), 2, 5);
            if (word.length() < 8) {
                Check.landGood(FORT.replace("a at", word + "x at"), 1);
            }
            Check.landGood(FORT.replace("a at", word.substring(1) + "q at"), 1);
        }
        Check.landFault("fort 5 at p0 eats 1 store 1;", 2, 5);
        Check.landFault("fort ; at p0 eats 1 store 1;", 2, 5);
        Check.landFault("fort at p0 eats 1 store 1;", 2, 5);
    }

    private static String named(String line, char from, int n) {
        StringBuilder s = new StringBuilder();
        for (int i = 0; i < n; i++) {
            s.append(line.replace("a at", (char) (from + i) + " at"));
        }
        return s.toString();
    }

    private static void tooManyOfASort() {
        Check.sentence("At most 24 roads, 3 FORTS, 3 PANS, 5 TOWNS; FAULT 2 (too many of a sort: at the line's first word)");
        String full = Check.times(ROAD, 24) + named(FORT, 'a', 3) + named(PAN, 'd', 3) + named(TOWN, 'g', 5);
        Check.landGood(full, 35);
        SaltOffice x = new SaltOffice();
        Check.land(x, full);
        Check.due("FORTS", x.about(0), 3);
        Check.due("PANS", x.about(1), 3);
        Check.due("TOWNS", x.about(2), 5);
        Check.due("roads", x.about(3), 24);
        String[] more = {ROAD, FORT.replace("a at", "z at"), PAN.replace("a at", "z at"), TOWN.replace("a at", "z at")};
        for (String line : more) {
            Check.landFault(full + " " + line, 2, full.length() + 1);
        }
        // At the first word, whatever is behind it; and the fourth of a sort, though others have room.
        Check.landFault(Check.times(ROAD, 24) + "road !", 2, 24 * 13);
        Check.landFault(named(FORT, 'a', 3) + "fort", 2, 84);
        Check.landFault(named(PAN, 'a', 3) + "pan a", 2, 3 * PAN.length());
        Check.landFault(named(TOWN, 'a', 5) + "town a", 2, 5 * TOWN.length());
        Check.landGood(named(FORT, 'a', 3) + ROAD, 4);
        // Each text is counted by itself.
        Check.due("a full one again", Check.land(x, full), 35);
    }

    private static void oneLandBehindAnother() {
        Check.sentence("4: The TAPE (empty then) is the LAND");
        String full = Check.times(ROAD, 24) + named(FORT, 'a', 3) + named(PAN.replace("serves 1", "serves 0 1 2 3 4"), 'd', 3) + named(TOWN, 'g', 5);
        SaltOffice x = new SaltOffice();
        for (int i = 0; i < 5; i++) {
            Check.due("a full one", Check.land(x, full), 35);
            Check.due("one that is at FAULT at its end", Check.land(x, full + "!"), -1);
            Check.due("one of each", Check.land(x, ROAD + FORT + PAN.replace("a at", "b at") + TOWN.replace("a at", "c at")), 4);
            for (int what = 0; what <= 3; what++) {
                Check.due("about(" + what + ")", x.about(what), 1);
            }
            // The TOWN is of DISTRICT 0, the PAN serves DISTRICT 1 alone.
            x.run(0, 1, 0);
            Check.due("worth(0)", x.worth(0), Check.NO_WORTH);
        }
    }

    /** A line with # for the number that is looked at. */
    private static void range(String line, int least, int most) {
        int place = line.indexOf('#');
        Check.landGood(line.replace("#", String.valueOf(least)), 1);
        Check.landGood(line.replace("#", String.valueOf(most)), 1);
        if (least > 0) {
            Check.landFault(line.replace("#", String.valueOf(least - 1)), 4, place);
        }
        if (most < 9999) {
            Check.landFault(line.replace("#", String.valueOf(most + 1)), 4, place);
            Check.landFault(line.replace("#", "9999"), 4, place);
        }
        Check.landFault(line.replace("#", "10000"), 1, place);
        Check.landFault(line.replace("#", "-1"), 2, place);
        Check.landFault(line.replace("#", "p1"), 2, place);
        Check.landFault(line.replace("#", "x"), 2, place);
        Check.landFault(line.substring(0, place), 2, place);
    }

    private static void numbersInRange() {
        Check.sentence("roads (1 .. 90 days)");
        range("road p0 p1 #;", 1, 90);
        Check.sentence("FORTS (eats 0 .. 999 grain a month; store 0 .. 9999)");
        range("fort a at p0 eats # store 1;", 0, 999);
        range("fort a at p0 eats 1 store #;", 0, 9999);
        Check.sentence("PANS (salt made in MONTHS 0 .. 11 of a year, each 0 .. 999; the DISTRICTS 0 .. 4 that it serves)");
        for (int month = 0; month < 12; month++) {
            range("pan a at p0 makes" + Check.times(" 1", month) + " #" + Check.times(" 1", 11 - month) + " serves 1;", 0, 999);
        }
        range("pan a at p0 makes" + TWELVE + " serves #;", 0, 4);
        Check.landGood("pan a at p0 makes" + TWELVE + " serves 1 0 4;", 1);
        Check.landFault("pan a at p0 makes" + TWELVE + " serves 1 5;", 4, 51);
        String two = named(PAN, 'b', 2);
        Check.landFault(two + "pan a at p0 makes" + TWELVE + " serves 5;", 4, two.length() + 49);
        Check.landFault(two + "pan a at p0 makes" + TWELVE + " serves 9999;", 4, two.length() + 49);
        Check.sentence("TOWNS (of a DISTRICT 0 .. 4; wants 0 .. 999 sacks a month; price 1 .. 999; grain 0 .. 999 a month at cost 1 .. 99)");
        range("town a at p0 of # wants 1 price 1 grain 1 cost 1;", 0, 4);
        range("town a at p0 of 0 wants # price 1 grain 1 cost 1;", 0, 999);
        range("town a at p0 of 0 wants 1 price # grain 1 cost 1;", 1, 999);
        range("town a at p0 of 0 wants 1 price 1 grain # cost 1;", 0, 999);
        range("town a at p0 of 0 wants 1 price 1 grain 1 cost #;", 1, 99);
    }

    private static void numbersAreKept() {
        Check.sentence("FORTS (eats 0 .. 999 grain a month; store 0 .. 9999), PANS (salt made in MONTHS 0 .. 11 of a year, each 0 .. 999)");
        SaltOffice x = new SaltOffice();
        Check.land(x, "fort a at p0 eats 999 store 9999;fort b at p0 eats 0 store 9999;fort c at p0 eats 999 store 0;"
            + "pan s at p0 makes 999 0 1 2 3 4 5 6 7 8 9 500 serves 4;town t at p0 of 4 wants 999 price 999 grain 999 cost 99;"
            + "town u at p0 of 4 wants 0 price 1 grain 0 cost 1;");
        x.run(0, 25, 0);
        Check.due("fort(0, 0, 0)", x.fort(0, 0, 0), 9000);
        Check.due("fort(1, 24, 0)", x.fort(1, 24, 0), 9999);
        Check.due("fort(2, 0, 1)", x.fort(2, 0, 1), 999);
        int[] makes = {999, 0, 1, 2, 3, 4, 5, 6, 7, 8, 9, 500};
        int salt = 0;
        for (int m = 0; m < 25; m++) {
            salt += makes[m % 12];
            Check.due("pan(0, " + m + ", 0)", x.pan(0, m, 0), salt);
        }
        Check.due("town(0, 0, 1)", x.town(0, 0, 1), 3 * 999);
        Check.due("town(1, 0, 1)", x.town(1, 0, 1), 1);
        x.merchant(30000);
        Check.reform(x, 0, "rate 9999;");
        Check.land(x, "fort a at p0 eats 1 store 1;pan s at p0 makes" + TWELVE + " serves 4;town t at p0 of 4 wants 999 price 999 grain 999 cost 99;");
        x.costs(0, 50, 0, 0, 0);
        x.run(0, 0, 0);
        // 30000 coins allow 30 tens at 990 each, less than LOAD and the grain do.
        Check.due("n by the cost", x.way(0, 3), 30);
    }

    private static void placesOfARoad() {
        Check.sentence("roads (.. the two P differ); FAULT 4: a second P like the first");
        for (int p = 0; p < 16; p++) {
            Check.landFault("road p" + p + " p" + p + " 1;", 4, p < 10 ? 8 : 9);
        }
        Check.landFault("road p1 p01 1;", 4, 8);
        Check.landFault("road p00 p0 !", 4, 9);
        Check.sentence("roads (.. either way)");
        SaltOffice x = new SaltOffice();
        Check.land(x, "road p9 p2 3;");
        Check.due("days(9, 2)", x.days(9, 2), 3);
        Check.due("days(2, 9)", x.days(2, 9), 3);
    }

    private static void districtsOnce() {
        Check.sentence("the DISTRICTS 0 .. 4 that it serves, each once; FAULT 4: a DISTRICT a second time in one line");
        String pan = "pan a at p0 makes" + TWELVE + " serves";
        for (int d = 0; d < 5; d++) {
            Check.landFault(pan + " " + d + " " + d + ";", 4, pan.length() + 3);
            Check.landFault(pan + " 0 1 2 3 4 " + d + ";", 4, pan.length() + 11);
            Check.landFault(pan + " " + d + " 0" + d + ";", 4, pan.length() + 3);
        }
        Check.landGood(pan + " 4 3 2 1 0;", 1);
        Check.landFault(pan + " 0 1 2 3 4 5;", 4, pan.length() + 11);
        Check.landFault(pan + ";", 2, pan.length());
        // In another line the same may stand again.
        Check.landGood(pan + " 0 1;" + pan.replace("a at", "b at") + " 1 0;", 2);
    }

    private static void numberedAsTold() {
        Check.sentence("numbered as they are told");
        SaltOffice x = new SaltOffice();
        Check.land(x, TOWN.replace("price 1", "price 7") + FORT.replace("a at", "z at").replace("store 1", "store 90")
            + PAN.replace("a at", "y at") + TOWN.replace("a at", "x at").replace("price 1", "price 5")
            + PAN.replace("a at", "w at").replace("makes 1", "makes 40") + FORT.replace("a at", "b at").replace("store 1", "store 80"));
        x.run(0, 1, 0);
        Check.due("fort(0, 0, 0)", x.fort(0, 0, 0), 89);
        Check.due("fort(1, 0, 0)", x.fort(1, 0, 0), 79);
        Check.due("pan(0, 0, 0)", x.pan(0, 0, 0), 1);
        Check.due("pan(1, 0, 0)", x.pan(1, 0, 0), 40);
        Check.due("town(0, 0, 1)", x.town(0, 0, 1), 21);
        Check.due("town(1, 0, 1)", x.town(1, 0, 1), 15);
    }

    private static void nameToldAlready() {
        Check.sentence("FAULT 3: a NAME told already");
        String[] lines = {FORT, PAN, TOWN};
        for (String first : lines) {
            for (String second : lines) {
                Check.landFault(first + second, 3, first.length() + second.indexOf("a at"));
                Check.landGood(first + second.replace("a at", "aa at"), 2);
                Check.landFault(first.replace("a at", "abcdefgh at") + second.replace("a at", "abcdefgh at"), 3,
                    first.length() + 7 + second.indexOf("a at"));
                Check.landGood(first.replace("a at", "abcdefgh at") + second.replace("a at", "abcdefgi at"), 2);
                Check.landGood(first.replace("a at", "abcdefgh at") + second.replace("a at", "bbcdefgh at"), 2);
            }
        }
        for (char c = 'a'; c <= 'z'; c++) {
            Check.landGood(FORT.replace("a at", c + " at") + FORT.replace("a at", c + "" + c + " at") + FORT.replace("a at", "a" + c + "q at"), 3);
        }
        // The last of all that can be told, like the first.
        String full = named(FORT, 'a', 3) + named(PAN, 'd', 3) + named(TOWN, 'g', 4);
        Check.landFault(full + TOWN, 3, full.length() + 5);
        // In another text it may be told again.
        SaltOffice x = new SaltOffice();
        Check.due("land()", Check.land(x, FORT), 1);
        Check.due("land() again", Check.land(x, FORT), 1);
    }

    private static void firstByPlace() {
        Check.sentence("FAULTS, the first by its place (bytes from 0)");
        Check.landFault("fort a at p0 eats 1000 store 10000;!", 4, 18);
        Check.landFault("fort a at p0 eats 1 store 10000; fort a", 1, 26);
        Check.landFault(FORT + "fort a at p0 eats 1000", 3, 33);
        Check.landFault(FORT + "fort b at p0 eats 1000; fort a", 4, 46);
        Check.landFault("road p0 p0 91 !", 4, 8);
        Check.landFault("x !", 2, 0);
        Check.landFault("! x", 1, 0);
        Check.landFault(" \n !", 1, 3);
    }

    private static void atTheEnd() {
        Check.sentence("FAULTS .. (.. the end: the text's length)");
        String[] lines = {ROAD, FORT, PAN, TOWN};
        for (String line : lines) {
            for (int at = line.indexOf(' '); at > 0; at = line.indexOf(' ', at + 1)) {
                Check.landFault(line.substring(0, at), 2, at);
                Check.landFault(line.substring(0, at) + " ", 2, at + 1);
                Check.landFault(line.substring(0, at) + "\n  \n", 2, at + 4);
                Check.landFault(ROAD + line.substring(0, at), 2, 13 + at);
            }
            Check.landFault(line.substring(0, line.length() - 1), 2, line.length() - 1);
            Check.landGood(line, 1);
        }
    }

    private static void leastAtOnePlace() {
        Check.sentence("FAULTS, .. at one place the least");
        // No TOKEN, where one would be too many, out of its place, told already or a number that can't be.
        Check.landFault("fort a at p0 eats 99999 store 1;", 1, 18);
        Check.landFault("fort a at p0 eats ! store 1;", 1, 18);
        Check.landFault(FORT + "fort aaaaaaaaa", 1, 33);
        Check.landFault(Check.times(ROAD, 24) + "roadroadr", 1, 24 * 13);
        // One too many of a sort, whose NAME is told already: its first word comes first anyway.
        Check.landFault(named(FORT, 'a', 3) + FORT, 2, 84);
        // A number that can't be where none can stand is one that can't stand there.
        Check.landFault("fort 99 at p0 eats 1 store 1;", 2, 5);
        Check.landFault("pan a at p0 makes" + TWELVE + " 5000 serves 1;", 2, 42);
        Check.landFault("road p0 p0", 4, 8);
    }

    private static void whatCannotStandThere() {
        Check.sentence("FAULT 2: one that can't stand there");
        // Each TOKEN of each line, in another's place.
        String[] lines = {ROAD, FORT, TOWN, "pan a at p0 makes" + TWELVE + " serves 1 ;"};
        for (String line : lines) {
            String[] tokens = line.replace(";", " ;").replaceAll(" +", " ").trim().split(" ");
            StringBuilder before = new StringBuilder();
            for (String token : tokens) {
                Check.landFault(before + "( " + token, 2, before.length());
                // Behind a DISTRICT another may stand.
                if (!(before.indexOf("serves 1") >= 0)) {
                    Check.landFault(before + (token.matches("[0-9]+") ? "q" : "7"), 2, before.length());
                }
                before.append(token).append(' ');
            }
        }
        Check.landFault("rate 1;", 2, 0);
        Check.landFault("p0", 2, 0);
        Check.landFault(";", 2, 0);
        Check.landFault(ROAD + ";", 2, 13);
    }

    private static void monthsOfAWay() {
        Check.sentence("MONTHS of a way: its DAYS / 30, rounded up (0 on the spot).");
        int[][] ways = {{0, 0}, {1, 1}, {29, 1}, {30, 1}, {31, 2}, {59, 2}, {60, 2}, {61, 3}, {90, 3}, {91, 4}, {120, 4}, {180, 6}, {181, 7}};
        for (int[] w : ways) {
            SaltOffice x = new SaltOffice();
            StringBuilder land = new StringBuilder();
            int left = w[0];
            int at = 0;
            while (left > 0) {
                land.append("road p").append(at).append(" p").append(at + 1).append(' ').append(Math.min(90, left)).append(';');
                left -= Math.min(90, left);
                at++;
            }
            // With HAUL 0 and PATIENCE 1 a sack is worth PRICE less the MONTHS of the way.
            Check.land(x, land + "pan a at p0 makes" + TWELVE + " serves 0;town t at p" + at + " of 0 wants 0 price 100 grain 0 cost 1;");
            x.costs(0, 1, 1, 0, 0);
            x.run(0, 0, 0);
            Check.due("worth by " + w[0] + " days", x.worth(0), 100 - w[1]);
        }
    }
}
