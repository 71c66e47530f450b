/** The boundary cases of promises 1 to 7 and 25: a new object, the TAPE, what reading a text leaves, DAYS, about. */
public final class EdgesOfTape {
    private static final int[] NO_SHELVES = {-1, 4, 5, Integer.MIN_VALUE, Integer.MAX_VALUE};

    public static void main(String[] args) {
        newObject();
        newObjectRuns();
        feedUpToFull();
        feedRefused();
        feedHighestFirst();
        endWithin();
        endCutsOff();
        endRefused();
        landEmpties();
        landAtFault();
        landOfFullTape();
        landOfNothing();
        reformEmpties();
        reformAtFault();
        reformTooLong();
        reformWithoutShelf();
        faultOfLatest();
        faultOfOtherWhat();
        daysWithoutWay();
        daysByLeast();
        aboutOfOtherWhat();
        Check.done();
    }

    private static void newObject() {
        Check.sentence("1: An empty LAND, no MERCHANTS, empty SHELVES.");
        SaltOffice x = new SaltOffice();
        for (int what = 0; what <= 7; what++) {
            Check.due("about(" + what + ")", x.about(what), 0);
        }
        for (int what = 10; what <= 13; what++) {
            Check.due("about(" + what + ")", x.about(what), 0);
        }
        Check.due("fault(0)", x.fault(0), 0);
        Check.due("fault(1)", x.fault(1), -1);
        for (int a = 0; a < 16; a++) {
            for (int b = 0; b < 16; b++) {
                Check.due("days(" + a + ", " + b + ")", x.days(a, b), a == b ? 0 : -1);
            }
        }
        Check.due("weather without a PAN", x.weather(0, 0, 100), -1);
        Check.due("dead without a MERCHANT", x.dead(0, 0, -1), -1);
        Check.due("untell without a FACT", x.untell(0), false);
        withoutRun(x);
    }

    private static void withoutRun(SaltOffice x) {
        for (int what = 0; what <= 10; what++) {
            Check.due("ran(" + what + ")", x.ran(what), -1);
        }
        Check.due("fort(0, 0, 0)", x.fort(0, 0, 0), -1);
        Check.due("pan(0, 0, 0)", x.pan(0, 0, 0), -1);
        Check.due("town(0, 0, 0)", x.town(0, 0, 0), -1);
        Check.due("book(0, 0, 0)", x.book(0, 0, 0), -1);
        Check.due("paper(0, 0)", x.paper(0, 0), -1);
        Check.due("way(0, 0)", x.way(0, 0), -1);
        Check.due("worth(0)", x.worth(0), Check.NO_WORTH);
    }

    private static void newObjectRuns() {
        Check.sentence("1: An empty LAND, no MERCHANTS, empty SHELVES.");
        SaltOffice x = new SaltOffice();
        for (int shelf = 0; shelf < 4; shelf++) {
            Check.due("run(" + shelf + ", 240, 0)", x.run(shelf, 240, 0), 0);
            for (int what = 0; what < 10; what++) {
                Check.due("ran(" + what + ")", x.ran(what), 0);
            }
            Check.due("ran(10)", x.ran(10), 240);
        }
        Check.due("judge(0, 3, 240, 0)", x.judge(0, 3, 240, 0), 2);
        Check.due("worth(0)", x.worth(0), Check.NO_WORTH);
    }

    private static void feedUpToFull() {
        Check.sentence("2: how many there are");
        SaltOffice x = new SaltOffice();
        for (int i = 1; i <= 80; i++) {
            Check.due("feed " + i, x.feed(0, 0, 0, 0, 0), 20 * i);
            Check.due("about(7)", x.about(7), 20 * i);
        }
    }

    private static void feedRefused() {
        Check.sentence("2: NONE, and nothing comes, if there would be more than 1,600.");
        for (int length = 1580; length <= 1600; length++) {
            SaltOffice x = new SaltOffice();
            Check.put(x, Check.times(" ", length));
            // What would come is no TOKEN.
            int answer = x.feed(-1, -1, -1, -1, -1);
            Check.due("feed behind " + length, answer, length == 1580 ? 1600 : -1);
            Check.due("about(7)", x.about(7), length == 1580 ? 1600 : length);
            if (length > 1580) {
                Check.due("land() of blanks", x.land(), 0);
            }
        }
    }

    private static void feedHighestFirst() {
        Check.sentence("2: Twenty bytes come behind those on the TAPE, of each number the highest first");
        for (int place = 0; place < 20; place++) {
            for (int sign = 33; sign <= 255; sign += 222) {
                int[] n = {0x20202020, 0x20202020, 0x20202020, 0x20202020, 0x20202020};
                int shift = 24 - 8 * (place % 4);
                n[place / 4] = n[place / 4] & ~(255 << shift) | sign << shift;
                SaltOffice x = new SaltOffice();
                x.feed(0x20202020, 0x20202020, 0x20202020, 0x20202020, 0x20202020);
                Check.due("feed", x.feed(n[0], n[1], n[2], n[3], n[4]), 40);
                Check.due("land()", x.land(), -1);
                Check.due("fault(0)", x.fault(0), 1);
                Check.due("fault(1)", x.fault(1), 20 + place);
            }
        }
    }

    private static void endWithin() {
        Check.sentence("3: The TAPE has its first n bytes: n");
        SaltOffice x = new SaltOffice();
        Check.put(x, "tax 1;!");
        Check.due("end(7)", x.end(7), 7);
        Check.due("end(6)", x.end(6), 6);
        Check.due("about(7)", x.about(7), 6);
        Check.due("reform(0) of what is left", x.reform(0), 1);
        Check.put(x, "ta!!");
        Check.due("end(2)", x.end(2), 2);
        Check.put(x, "x 12;");
        Check.due("what is fed comes behind", x.about(7), 7);
        Check.due("reform(0) of both", x.reform(0), 1);
        Check.put(x, "!");
        Check.due("end(0)", x.end(0), 0);
        Check.due("end(0) of an empty TAPE", x.end(0), 0);
        Check.due("reform(0) of nothing", x.reform(0), 0);
    }

    private static void endCutsOff() {
        Check.sentence("3: The TAPE has its first n bytes (what was behind them is not looked at)");
        cutLand("road p0 p1 1a", 12, 2, 12);
        cutLand("road p0 p1 12", 12, 2, 12);
        cutLand("road p0 p1 12345", 15, 4, 11);
        cutLand("road p0 p15", 10, 2, 10);
        cutLand("road p0 p1a", 10, 2, 10);
        cutLand("road p0 p1111", 11, 2, 11);
        cutLand("fort abcdefghi", 13, 2, 13);
        cutLand("road p0 p1 1;", 12, 2, 12);
        // A longer text was read before: nothing of it is left.
        SaltOffice x = new SaltOffice();
        Check.land(x, "road p0 p1 1;road p1 p2 1;road p2 p3 1;");
        Check.due("a shorter text", Check.land(x, "road p0 p1 1;"), 1);
        Check.due("about(3)", x.about(3), 1);
    }

    private static void cutLand(String text, int n, int fault, int place) {
        SaltOffice x = new SaltOffice();
        Check.put(x, text);
        Check.due("end(" + n + ")", x.end(n), n);
        Check.due("land() of " + text.substring(0, n), x.land(), -1);
        fault(x, fault, place);
    }

    private static void endRefused() {
        Check.sentence("3: NONE, doing nothing, if it has not so many, or n is below 0.");
        SaltOffice x = new SaltOffice();
        Check.due("end(1) of an empty TAPE", x.end(1), -1);
        Check.put(x, "tax 1;!");
        int[] wrong = {8, 9, 20, 1600, 1601, -1, -7, Integer.MIN_VALUE, Integer.MAX_VALUE};
        for (int n : wrong) {
            Check.due("end(" + n + ")", x.end(n), -1);
            Check.due("about(7)", x.about(7), 7);
        }
        // What was cut off once can't be had back.
        x.end(6);
        Check.due("end(7) behind end(6)", x.end(7), -1);
        Check.due("reform(0)", x.reform(0), 1);
    }

    private static void landEmpties() {
        Check.sentence("4: The TAPE (empty then) is the LAND (FACTS and what was run are none then): how many lines");
        SaltOffice x = Check.office(Check.LAND, "rate 20;", 1000, 0);
        x.later(9);
        x.weather(0, 0, 50);
        x.forged(0, 0);
        x.dead(0, 0, 1);
        x.run(0, 2, 9);
        Check.due("land()", Check.land(x, Check.LAND), 4);
        Check.due("the TAPE", x.about(7), 0);
        Check.due("FACTS", x.about(5), 0);
        Check.due("an old FACT", x.untell(0), false);
        withoutRun(x);
        Check.due("MERCHANTS stay", x.about(4), 2);
        Check.due("SHELVES stay", x.about(10), 1);
        Check.due("the TIME stays", x.about(6), 9);
        Check.due("a FACT is numbered anew", x.forged(5, 5), 0);
        // The old WEATHER and DEAD count no more.
        x.run(0, 1, 9);
        Check.due("salt", x.pan(0, 0, 0), 50);
        Check.due("WAY", x.book(0, 0, 1), 1);
    }

    private static void landAtFault() {
        Check.sentence("4: NONE: a FAULT (all stays).");
        SaltOffice x = Check.office(Check.LAND, "rate 20;", 1000);
        x.weather(0, 0, 50);
        x.run(0, 4, 0);
        long worth = x.worth(0);
        long gain = x.way(0, 4);
        // The FAULT comes behind good lines, of which none may be kept.
        Check.due("land()", Check.land(x, "road p0 p1 1; road p3 p4 1; fort a at p0 eats 1 store 1; town b at p0 of 0"), -1);
        Check.due("FORTS", x.about(0), 1);
        Check.due("PANS", x.about(1), 1);
        Check.due("TOWNS", x.about(2), 1);
        Check.due("roads", x.about(3), 1);
        Check.due("FACTS", x.about(5), 1);
        Check.due("days(0, 1)", x.days(0, 1), 30);
        Check.due("days(3, 4)", x.days(3, 4), -1);
        Check.due("what was run", x.ran(10), 4);
        Check.due("fort(0, 3, 0)", x.fort(0, 3, 0), 170);
        Check.due("worth(0)", x.worth(0), worth);
        Check.due("way(0, 4)", x.way(0, 4), gain);
        x.run(0, 1, 0);
        Check.due("the FACT still counts", x.pan(0, 0, 0), 25);
        Check.due("the FORT still eats", x.fort(0, 0, 0), 80);
        // NAMES of a text at FAULT were never told.
        Check.due("land() with its NAMES", Check.land(x, "fort a at p0 eats 1 store 1; fort b at p0 eats 1 store 1;"), 2);
    }

    private static void landOfFullTape() {
        Check.sentence("Terms: A LAND is a text of at most 1,600 bytes");
        String line = "road p0 p1 7;";
        SaltOffice x = new SaltOffice();
        Check.put(x, Check.times(" ", 1600 - line.length()) + line);
        Check.due("about(7)", x.about(7), 1600);
        Check.due("land() of 1600 bytes", x.land(), 1);
        Check.due("days(0, 1)", x.days(0, 1), 7);
        Check.landFault(Check.times(" ", 1600 - line.length()) + line.replace(';', '!'), 1, 1599);
        Check.landFault(Check.times(" ", 1587) + "road p0 p1 10", 2, 1600);
        // As many TOKENS as bytes.
        Check.landFault(Check.times(";", 1600), 2, 0);
        Check.landFault(line + Check.times("(", 1600 - line.length()), 2, 13);
    }

    private static void landOfNothing() {
        Check.sentence("4: The TAPE (empty then) is the LAND (FACTS and what was run are none then): how many lines");
        SaltOffice x = Check.office(Check.LAND, "", 5);
        x.weather(0, 0, 50);
        x.run(0, 1, 0);
        Check.due("land() of an empty TAPE", x.land(), 0);
        for (int what = 0; what <= 3; what++) {
            Check.due("about(" + what + ")", x.about(what), 0);
        }
        Check.due("about(5)", x.about(5), 0);
        Check.due("ran(10)", x.ran(10), -1);
        Check.due("days(0, 1)", x.days(0, 1), -1);
        Check.due("weather(0, 0, 50)", x.weather(0, 0, 50), -1);
    }

    private static void reformEmpties() {
        Check.sentence("5: The TAPE (empty then) is the REFORM of a SHELF: how many lines");
        SaltOffice x = new SaltOffice();
        String lines = "class 1;class 2;class 3;class 4;";
        for (int shelf = 0; shelf < 4; shelf++) {
            Check.due("reform(" + shelf + ")", Check.reform(x, shelf, lines.substring(0, 8 * shelf + 8)), shelf + 1);
            Check.due("the TAPE", x.about(7), 0);
        }
        for (int shelf = 0; shelf < 4; shelf++) {
            Check.due("each SHELF has its own", x.about(10 + shelf), shelf + 1);
        }
        Check.due("an empty one", x.reform(3), 0);
        Check.due("about(13)", x.about(13), 0);
        // FACTS and what was run stay, unlike those of a LAND.
        x.forged(0, 0);
        x.run(0, 3, 0);
        Check.reform(x, 0, "tax 1;");
        Check.due("FACTS", x.about(5), 1);
        Check.due("what was run", x.ran(10), 3);
    }

    private static void reformAtFault() {
        Check.sentence("5: NONE: a FAULT (it stays)");
        SaltOffice x = Check.office(Check.LAND, "rate 20; tax 1;", 1000);
        Check.due("reform(0)", Check.reform(x, 0, "rate 1; tax 9; coin 1; most 9999; guard"), -1);
        Check.due("about(10)", x.about(10), 2);
        x.run(0, 0, 0);
        Check.due("worth(0) by the old tax", x.worth(0), 36 - 1);
        Check.due("way(0, 4) by the old rate", x.way(0, 4), 5 * (20 * 35 - 50));
        Check.due("an empty SHELF", Check.reform(x, 1, "rate 1; !"), -1);
        Check.due("about(11)", x.about(11), 0);
    }

    private static void reformTooLong() {
        Check.sentence("5: -2, and the TAPE stays: more than 700 bytes");
        SaltOffice x = new SaltOffice();
        Check.reform(x, 0, "rate 1; tax 1;");
        int[] lengths = {701, 702, 1600};
        for (int length : lengths) {
            x.end(0);
            Check.put(x, "tax 1;" + Check.times(" ", length - 6));
            Check.due("reform(0) of " + length, x.reform(0), -2);
            Check.due("the TAPE", x.about(7), length);
            Check.due("the SHELF", x.about(10), 2);
        }
        x.end(700);
        Check.due("reform(0) of 700", x.reform(0), 1);
        Check.due("the TAPE then", x.about(7), 0);
        Check.reformFault("tax 1" + Check.times(" ", 695), 2, 700);
        Check.reformFault(Check.times(" ", 699) + "!", 1, 699);
    }

    private static void reformWithoutShelf() {
        Check.sentence("5: -2, and the TAPE stays: .. or no such SHELF.");
        SaltOffice x = new SaltOffice();
        Check.put(x, "tax 1; tax");
        for (int shelf : NO_SHELVES) {
            Check.due("reform(" + shelf + ")", x.reform(shelf), -2);
            Check.due("the TAPE", x.about(7), 10);
        }
        x.end(6);
        Check.due("reform(3)", x.reform(3), 1);
    }

    private static void faultOfLatest() {
        Check.sentence("6: Of the latest of both that was not -2 what 0: its FAULT (0), 1: its place (NONE).");
        SaltOffice x = new SaltOffice();
        Check.reform(x, 0, "rate age;");
        fault(x, 5, 5);
        Check.put(x, "!" + Check.times(" ", 700));
        Check.due("reform(0) that is too long", x.reform(0), -2);
        fault(x, 5, 5);
        x.end(1);
        Check.due("reform(4)", x.reform(4), -2);
        fault(x, 5, 5);
        Check.due("land()", x.land(), -1);
        fault(x, 1, 0);
        Check.reform(x, 0, "tax 1;");
        fault(x, 0, -1);
        Check.land(x, "road p0 p1 91;");
        fault(x, 4, 11);
        x.merchant(1);
        x.run(0, 1, 0);
        fault(x, 4, 11);
        Check.land(x, "road p0 p1 90;");
        fault(x, 0, -1);
        x.reform(-1);
        fault(x, 0, -1);
    }

    private static void fault(SaltOffice x, int fault, int place) {
        Check.due("fault(0)", x.fault(0), fault);
        Check.due("fault(1)", x.fault(1), place);
    }

    private static void faultOfOtherWhat() {
        Check.sentence("6: NONE for another what.");
        SaltOffice x = new SaltOffice();
        int[] others = {-1, 2, 3, Integer.MIN_VALUE, Integer.MAX_VALUE};
        for (int what : others) {
            Check.due("fault(" + what + ")", x.fault(what), -1);
        }
        Check.land(x, "  !");
        for (int what : others) {
            Check.due("fault(" + what + ") behind a FAULT", x.fault(what), -1);
        }
    }

    private static void daysWithoutWay() {
        Check.sentence("7: NONE if there is no way, or no such P.");
        SaltOffice x = new SaltOffice();
        Check.land(x, "road p0 p15 90;");
        Check.due("days(0, 15)", x.days(0, 15), 90);
        Check.due("days(15, 0)", x.days(15, 0), 90);
        Check.due("days(15, 15)", x.days(15, 15), 0);
        Check.due("days(0, 14)", x.days(0, 14), -1);
        int[] wrong = {-1, 16, 17, Integer.MIN_VALUE, Integer.MAX_VALUE};
        for (int p : wrong) {
            Check.due("days(" + p + ", 0)", x.days(p, 0), -1);
            Check.due("days(0, " + p + ")", x.days(0, p), -1);
            Check.due("days(" + p + ", " + p + ")", x.days(p, p), -1);
        }
    }

    private static void daysByLeast() {
        Check.sentence("Terms: DAYS between two P: the least by roads.");
        SaltOffice x = new SaltOffice();
        StringBuilder chain = new StringBuilder();
        for (int p = 0; p < 15; p++) {
            chain.append("road p").append(15 - p).append(" p").append(14 - p).append(" 90;");
        }
        Check.land(x, chain.toString());
        for (int a = 0; a < 16; a++) {
            for (int b = 0; b < 16; b++) {
                Check.due("days(" + a + ", " + b + ")", x.days(a, b), 90 * Math.abs(a - b));
            }
        }
        // Each P may be the one between two others.
        for (int middle = 0; middle < 16; middle++) {
            StringBuilder star = new StringBuilder();
            for (int p = 0; p < 16; p++) {
                star.append(p == middle ? "" : "road p" + p + " p" + middle + " " + (p + 1) + ";");
            }
            Check.land(x, star.toString());
            for (int a = 0; a < 16; a++) {
                int b = (a + 5) % 16;
                Check.due("days(" + a + ", " + b + ")", x.days(a, b), (a == middle ? 0 : a + 1) + (b == middle ? 0 : b + 1));
            }
        }
        // Of two roads between the same the shorter, whichever is told first; a detour if it is shorter.
        Check.land(x, "road p0 p1 5;road p0 p1 9;road p3 p4 9;road p4 p3 5;road p1 p2 4;road p0 p2 10;road p5 p6 2;road p6 p7 2;road p5 p7 3;");
        Check.due("days(0, 1)", x.days(0, 1), 5);
        Check.due("days(3, 4)", x.days(3, 4), 5);
        Check.due("days(0, 2)", x.days(0, 2), 9);
        Check.due("days(5, 7)", x.days(5, 7), 3);
    }

    private static void aboutOfOtherWhat() {
        Check.sentence("25: NONE for another what.");
        SaltOffice x = Check.office(Check.LAND, "tax 1;", 1);
        int[] others = {-1, 8, 9, 14, 15, 100, Integer.MIN_VALUE, Integer.MIN_VALUE + 9, Integer.MIN_VALUE + 10, Integer.MAX_VALUE};
        for (int what : others) {
            Check.due("about(" + what + ")", x.about(what), -1);
        }
    }
}
