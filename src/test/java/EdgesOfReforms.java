/** The boundary cases of the document's sentences on REFORMS: lines, units, what a line may ask for, values, CLASSES. */
public final class EdgesOfReforms {
    private static final String[] SORTS = {"rate", "class", "coin", "most", "tax", "guard"};
    private static final String SPOT = "pan s at p0 makes 7 7 7 7 7 7 7 7 7 7 7 7 serves 0;town t at p0 of 0 wants 0 price 1 grain 0 cost 1;";

    public static void main(String[] args) {
        everyByte();
        withoutPlaces();
        eachOnce();
        fiveClasses();
        firstWords();
        oneReformBehindAnother();
        hundredUnits();
        withinSixOthers();
        whatALineMayAsk();
        faultsInOrder();
        grammar();
        endOfText();
        wrapping();
        cutTowardsZero();
        byZero();
        oneOrZero();
        bindsTighter();
        lineThatIsNotThere();
        belowZeroAndAbove();
        guardToAHundred();
        yearAndMonth();
        storeAndNeed();
        daysOfTheGrain();
        waitingAndMade();
        toldOnceAMonth();
        rateAsItIsAskedFor();
        classOfAPaper();
        classByDays();
        classAsDrawingBegins();
        Check.done();
    }

    private static void everyByte() {
        Check.sentence("TOKENS as above (words, N, signs, blanks)");
        for (int b = 0; b < 256; b++) {
            char c = (char) b;
            boolean token = c >= 'a' && c <= 'z' || c >= '0' && c <= '9' || ";()<>=+-*/".indexOf(c) >= 0;
            if (c == ' ' || c == '\n') {
                Check.reformGood("tax 1;" + c, 1);
                Check.reformGood("tax" + c + "1" + c + ";", 1);
            } else {
                Check.reformFault("tax 1;" + c, token ? 2 : 1, 6);
            }
        }
        Check.reformFault("abcdefghi", 1, 0);
        Check.reformFault("abcdefgh", 2, 0);
        Check.reformFault("rate 10000;", 1, 5);
        Check.reformGood("rate 9999;", 1);
        Check.reformFault("rate 1or 2;", 1, 5);
        Check.reformGood("rate(1)or(2)and3;tax4;", 2);
    }

    private static void withoutPlaces() {
        Check.sentence("(TOKENS as above, without P.)");
        // What would be a P is the word p, with a number behind it.
        Check.reformFault("rate p1;", 2, 5);
        Check.reformFault("rate 1 + p1;", 2, 9);
        Check.reformFault("p1", 2, 0);
        Check.reformFault("rate 1 p1a", 2, 7);
        Check.reformFault("rate1p1;", 1, 4);
    }

    private static void eachOnce() {
        Check.sentence("Each once, but class; FAULT 2 (a sort a second time: at its first word)");
        for (String sort : SORTS) {
            String first = sort + " 1;";
            if (sort.equals("class")) {
                Check.reformGood(first + first, 2);
                continue;
            }
            Check.reformFault(first + first, 2, first.length());
            Check.reformFault(first + "class 1; " + sort + " !", 2, first.length() + 9);
            Check.reformFault(sort + " 0;" + sort, 2, first.length());
        }
        Check.reformGood("guard 1;tax 1;most 1;coin 1;class 1;rate 1;", 6);
        // In another text it may stand again.
        SaltOffice x = new SaltOffice();
        Check.due("reform(0)", Check.reform(x, 0, "rate 1;"), 1);
        Check.due("reform(0) again", Check.reform(x, 0, "rate 1;"), 1);
        Check.due("reform(1)", Check.reform(x, 1, "rate 1;"), 1);
    }

    private static void fiveClasses() {
        Check.sentence("class (5 at most); FAULT 2 (a 6th class: at its first word)");
        Check.reformGood(Check.times("class 1;", 5), 5);
        Check.reformFault(Check.times("class 1;", 6), 2, 40);
        Check.reformFault(Check.times("class 1;", 5) + "class", 2, 40);
        Check.reformFault(Check.times("class 1;", 5) + "tax 1; class !", 2, 47);
        Check.reformGood(Check.times("class 1;", 5) + "rate 1;coin 1;most 1;tax 1;guard 1;", 10);
    }

    private static void firstWords() {
        Check.sentence("line = (rate | class | coin | most | tax | guard) e ;");
        String[] others = {"road", "fort", "at", "eats", "store", "pan", "makes", "serves", "town", "of", "wants", "price", "grain", "cost", "and", "or", "not",
            "year", "month", "need", "days", "waiting", "age", "sacks", "bought", "made", "p", "rates", "rat", "1", "(", ";"};
        for (String word : others) {
            Check.reformFault(word + " 1;", 2, 0);
            Check.reformFault("class 1;" + word + " 1;", 2, 8);
        }
        for (String word : SORTS) {
            Check.reformGood(word + " 1;", 1);
        }
    }

    private static void oneReformBehindAnother() {
        Check.sentence("5: The TAPE (empty then) is the REFORM of a SHELF");
        SaltOffice x = new SaltOffice();
        Check.land(x, SPOT);
        String full = Check.times("class 1;", 5) + "rate 1;coin 1;most 1;guard 1;tax " + Check.times("1+", 90) + "1;";
        for (int i = 0; i < 12; i++) {
            Check.due("a full one", Check.reform(x, i % 2, full), 10);
            Check.due("one that is at FAULT at its end", Check.reform(x, i % 2, full + "!"), -1);
            x.run(i % 2, 0, 0);
            Check.due("its tax", 1 - x.worth(0), 91);
            Check.due("another sort alone", Check.reform(x, 2, "guard 1;"), 1);
            x.run(2, 0, 0);
            Check.due("without a tax", 1 - x.worth(0), 0);
        }
    }

    private static void hundredUnits() {
        Check.sentence("100 units in all; FAULT 2 (a 101st unit: at its first TOKEN)");
        String ninetyNine = Check.times("1+", 98) + "1";
        Check.reformGood("rate " + ninetyNine + "+1;", 1);
        Check.reformFault("rate " + ninetyNine + "+1+1;", 2, 205);
        // Over all lines, of every sort.
        Check.reformGood("rate " + ninetyNine + ";tax 1;", 2);
        Check.reformFault("rate " + ninetyNine + ";tax 1+month;", 2, 209);
        Check.reformFault("rate " + ninetyNine + ";tax 1;guard year;", 2, 215);
        // A unit ( e ) counts, beside those that are in it.
        Check.reformGood("rate " + Check.times("1+", 98) + "(1);", 1);
        Check.reformFault("rate " + ninetyNine + "+(1);", 2, 204);
        Check.reformFault("rate " + ninetyNine + "+1+(1);", 2, 205);
        Check.reformGood("rate " + Check.times("(1)+", 49) + "(1);", 1);
        Check.reformFault("rate " + Check.times("(1)+", 50) + "1;", 2, 205);
        // Words are units; not, relations and joints are none.
        Check.reformGood("rate " + Check.times("not 1<2 and ", 49) + "not year<month;", 1);
        Check.reformFault("rate " + Check.times("not 1<2 and ", 50) + "1;", 2, 605);
        // What can't stand there is so at its own place, ahead of a 101st unit too.
        Check.reformFault("rate " + ninetyNine + "+1;tax ;", 2, 209);
        // Each text is counted by itself.
        SaltOffice x = new SaltOffice();
        for (int i = 0; i < 3; i++) {
            Check.due("reform(0)", Check.reform(x, 0, "rate " + ninetyNine + "+1;"), 1);
        }
    }

    private static void withinSixOthers() {
        Check.sentence("a unit ( e ), or a one behind not, within 6 others at most; FAULT 2 (what is within 7 others: at its first TOKEN, or at the not)");
        Check.reformGood("rate " + Check.times("(", 7) + "1" + Check.times(")", 7) + ";", 1);
        Check.reformFault("rate " + Check.times("(", 8) + "1" + Check.times(")", 8) + ";", 2, 12);
        Check.reformFault("rate " + Check.times("(", 90) + "1", 2, 12);
        Check.reformGood("rate " + Check.times("not ", 7) + "1;", 1);
        Check.reformFault("rate " + Check.times("not ", 8) + "1;", 2, 33);
        Check.reformFault("rate " + Check.times("not ", 150) + "1;", 2, 33);
        // Both count together, whichever is within the other.
        Check.reformGood("rate " + Check.times("not (", 3) + "not 1" + Check.times(")", 3) + ";", 1);
        Check.reformFault("rate " + Check.times("not (", 3) + "not (1)" + Check.times(")", 3) + ";", 2, 24);
        Check.reformGood("rate " + Check.times("(not ", 3) + "(1)" + Check.times(")", 3) + ";", 1);
        Check.reformFault("rate " + Check.times("(not ", 3) + "(not 1)" + Check.times(")", 3) + ";", 2, 21);
        Check.reformGood("rate " + Check.times("(", 6) + "not 1" + Check.times(")", 6) + ";", 1);
        Check.reformFault("rate " + Check.times("(", 6) + "not not 1" + Check.times(")", 6) + ";", 2, 15);
        // Side by side they are not within one another.
        Check.reformGood("rate " + Check.times("not 1 and ", 20) + "not 1;", 1);
        Check.reformGood("rate " + Check.times("((((((1))))))+", 12) + "1;", 1);
        Check.reformGood("rate ((((((1)+(2)))))) < (((((((3)))))));", 1);
        // A unit that is no ( e ) may be deeper than all of them.
        Check.reformGood("rate (((((((year*2+1)))))));", 1);
    }

    private static void whatALineMayAsk() {
        Check.sentence("What a line may ask for: year, month, waiting, made: all; store, need, days: rate alone; age, sacks, bought, days: class alone. 5 a word that the line may not ask for.");
        String all = " year month waiting made ";
        String rate = " store need days ";
        String classes = " age sacks bought days ";
        String[] words = {"year", "month", "store", "need", "days", "waiting", "age", "sacks", "bought", "made"};
        for (String sort : SORTS) {
            for (String word : words) {
                String w = " " + word + " ";
                boolean may = all.contains(w) || sort.equals("rate") && rate.contains(w) || sort.equals("class") && classes.contains(w);
                String text = sort + " " + word + ";";
                String deep = sort + " 1+(not " + word + "/2);";
                if (may) {
                    Check.reformGood(text, 1);
                    Check.reformGood(deep, 1);
                } else {
                    Check.reformFault(text, 5, sort.length() + 1);
                    Check.reformFault(deep, 5, sort.length() + 8);
                }
            }
        }
        // Words that no line may ask for can't stand there.
        String[] others = {"road", "fort", "at", "eats", "pan", "makes", "serves", "town", "of", "wants", "price", "grain", "cost", "rate", "class",
            "coin", "most", "tax", "guard", "and", "or", "foo"};
        for (String word : others) {
            Check.reformFault("class " + word + ";", 2, 6);
        }
    }

    private static void faultsInOrder() {
        Check.sentence("FAULTS, the first by its place, at one place the least");
        Check.reformFault("rate age !;", 5, 5);
        Check.reformFault("rate ! age;", 1, 5);
        Check.reformFault("rate 1 age;", 2, 7);
        Check.reformFault("rate 1;rate age;", 2, 7);
        Check.reformFault("rate " + Check.times("1+", 100) + "age;", 2, 205);
        Check.reformFault("rate " + Check.times("1+", 100) + "12345;", 1, 205);
        Check.reformFault("rate " + Check.times("1+", 99) + "age;", 5, 203);
        Check.reformFault(Check.times("class 1;", 5) + "classclas 1;", 1, 40);
        // Within too many others a word that may not be asked for is never reached.
        Check.reformFault("rate ((((((((age))))))));", 2, 12);
        Check.reformFault("rate (((((((age)))))));", 5, 12);
    }

    private static void grammar() {
        Check.sentence("e = both {or both}. both = one {and one}. one = not one | sum [(< | > | =) sum]. sum = term {(+ | -) term}. term = unit {(* | /) unit}.");
        String[] good = {"1", "1 or 2 or 3", "1 and 2 and 3", "1 or 2 and not 3", "not 1 < 2", "1 < 2", "1 > 2", "1 = 2", "1+2-3", "1*2/3", "(1)",
            "(1 or 2) < (3 and 4)", "1<2 and 3=4 or not 5", "(not 1) + 2", "((1)<(2))=(3)"};
        for (String e : good) {
            Check.reformGood("rate " + e + ";", 1);
        }
        Check.reformFault("rate 1 < 2 < 3;", 2, 11);
        Check.reformFault("rate 1 = not 2;", 2, 9);
        Check.reformFault("rate 1 + not 2;", 2, 9);
        Check.reformFault("rate 1 * not 2;", 2, 9);
        Check.reformFault("rate not;", 2, 8);
        Check.reformFault("rate or 1;", 2, 5);
        Check.reformFault("rate 1 or;", 2, 9);
        Check.reformFault("rate 1 or or 1;", 2, 10);
        Check.reformFault("rate 1 and;", 2, 10);
        Check.reformFault("rate 1 and or 1;", 2, 11);
        Check.reformFault("rate 1 +;", 2, 8);
        Check.reformFault("rate + 1;", 2, 5);
        Check.reformFault("rate - 1;", 2, 5);
        Check.reformFault("rate 1 - - 1;", 2, 9);
        Check.reformFault("rate 1 */ 1;", 2, 8);
        Check.reformFault("rate 1 <= 1;", 2, 8);
        Check.reformFault("rate ();", 2, 6);
        Check.reformFault("rate (1;", 2, 7);
        Check.reformFault("rate 1);", 2, 6);
        Check.reformFault("rate (1));", 2, 8);
        Check.reformFault("rate 1 1;", 2, 7);
        Check.reformFault("rate 1 not 1;", 2, 7);
        Check.reformFault("rate 1 (1);", 2, 7);
        Check.reformFault(";", 2, 0);
        Check.reformFault("rate 1;;", 2, 7);
        Check.reformFault("1 rate;", 2, 0);
        Check.reformFault("year 1;", 2, 0);
        Check.reformFault("road p0 p1 1;", 2, 0);
    }

    private static void endOfText() {
        Check.sentence("FAULTS .. (.. the end: the text's length)");
        String[] cut = {"rate", "rate ", "rate 1", "rate 1 ", "rate 1 <", "rate 1 or", "rate not", "rate (", "rate (1", "rate (1)", "tax 1; rate \n"};
        for (String text : cut) {
            Check.reformFault(text, 2, text.length());
        }
    }

    /** What an e is, from 0 to 9999, by the tax that a sack's WORTH is less by, in the MONTH behind a RUN of n. */
    private static long tax(String e, int n) {
        SaltOffice x = Check.office(SPOT, "tax " + e + ";");
        x.run(0, n, 0);
        return 1 - x.worth(0);
    }

    private static void value(String e, long want) {
        Check.due(e, tax(e, 0), Math.max(0, Math.min(9999, want)));
        // Below 0 too, where the value itself does not show.
        Check.due("0 - (" + e + ")", tax("0 - (" + e + ")", 0), Math.max(0, Math.min(9999, (int) -want)));
    }

    private static void wrapping() {
        Check.sentence("Ints, wrapping");
        // 2048 * 1024 * 1024 is 2 to the power of 31.
        String least = "2048*1024*1024";
        value(least + " < 0", 1);
        value("(" + least + " - 1) / 1024 / 1024 - 2000", 47);
        value("(" + least + " - 1) > 0", 1);
        value("(" + least + " - 1 + 1) < 0", 1);
        value(least + " * 2", 0);
        value("0 - " + least + " = " + least, 1);
        value(least + " / (0 - 1) = " + least, 1);
        value("4096*1024*1024 + 5", 5);
        value("9999*9999*9999 / 1000 / 1000", 9999 * 9999 * 9999 / 1000 / 1000);
        value("9999*9999*9999*9999 / 1000 / 1000", 9999 * 9999 * 9999 * 9999 / 1000 / 1000);
    }

    private static void cutTowardsZero() {
        Check.sentence("/ is cut towards 0");
        value("7 / 2", 3);
        value("(0-7) / 2", -3);
        value("7 / (0-2)", -3);
        value("(0-7) / (0-2)", 3);
        value("1 / 2", 0);
        value("(0-1) / 2", 0);
        value("8 / 3 * 3", 6);
        value("100 / 7 / 2", 7);
    }

    private static void byZero() {
        Check.sentence("/ .. (by 0: 0)");
        value("5 / 0", 0);
        value("0 / 0", 0);
        value("(0-5) / 0", 0);
        value("5 / 0 + 3", 3);
        value("5 / (1-1) = 0", 1);
        value("2048*1024*1024 / 0", 0);
    }

    private static void oneOrZero() {
        Check.sentence("relations, and, or, not are 1 or 0, of what is not 0");
        value("2 < 3", 1);
        value("3 < 3", 0);
        value("4 < 3", 0);
        value("4 > 3", 1);
        value("3 > 3", 0);
        value("2 > 3", 0);
        value("3 = 3", 1);
        value("3 = 4", 0);
        value("(0-1) < 0", 1);
        value("7 and 9", 1);
        value("7 and 0", 0);
        value("0 and 7", 0);
        value("0 and 0", 0);
        value("2 and 1", 1);
        value("(0-1) and (0-1)", 1);
        value("7 or 0", 1);
        value("0 or 7", 1);
        value("7 or 7", 1);
        value("0 or 0", 0);
        value("0 or (0-7)", 1);
        value("not 0", 1);
        value("not 1", 0);
        value("not 7", 0);
        value("not (0-1)", 0);
        value("not not 7", 1);
        value("(7 or 0) + (not 0) + (3 > 2) * 5", 7);
    }

    private static void bindsTighter() {
        Check.sentence("e = both {or both}. both = one {and one}. one = not one | sum [(< | > | =) sum].");
        value("1 or 0 and 0", 1);
        value("(1 or 0) and 0", 0);
        value("0 and 0 or 1", 1);
        value("not 0 and 0", 0);
        value("not (0 and 0)", 1);
        value("not 0 or 1", 1);
        value("not 1 < 2", 0);
        value("not 2 < 1", 1);
        value("(not 1) < 2", 1);
        value("1 + 2 < 4 - 2", 0);
        value("2 + 3 * 4", 14);
        value("10 - 3 - 2", 5);
        value("10 - (3 - 2)", 9);
        value("2 * 7 / 4", 3);
        value("2 * (7 / 4)", 2);
        value("((((((5))))))", 5);
        value("9999 - 9999 + 1", 1);
    }

    private static void lineThatIsNotThere() {
        Check.sentence("A line that is not there is 0.");
        String land = "fort f at p0 eats 0 store 0;" + "pan s at p0 makes 99 99 99 99 99 99 99 99 99 99 99 99 serves 0;"
            + "town t at p0 of 0 wants 0 price 50 grain 99 cost 1;";
        way(land, "", 0);
        way(land, "rate 1;", 1);
        way(land, "class 1;tax 1;guard 1;", 0);
        way(land, "coin 1;", 0);
        way(land, "most 99;", 0);
        way(land, "coin 1;most 10;", 4);
        SaltOffice x = Check.office(land, "rate 1;");
        x.run(0, 0, 0);
        Check.due("worth without a tax", x.worth(0), 50);
        guard("", 0);
    }

    private static void way(String land, String reform, int due) {
        SaltOffice x = Check.office(land, reform, 100);
        x.costs(0, 1, 0, 9999, 999);
        x.run(0, 0, 0);
        Check.due("way(0, 0) by " + reform, x.way(0, 0), due);
    }

    private static void belowZeroAndAbove() {
        Check.sentence("rate, coin, most, tax, guard below 0 are 0; above 9999 they are 9999");
        Check.due("tax 0 - 1", tax("0 - 1", 0), 0);
        Check.due("tax 9999", tax("9999", 0), 9999);
        Check.due("tax 9998 + 2", tax("9998 + 2", 0), 9999);
        Check.due("tax 9998", tax("9998", 0), 9998);
        Check.due("tax 9999 * 9999", tax("9999 * 9999", 0), 9999);
        rate("9999", 9999);
        rate("9998", 9998);
        rate("9999 + 1", 9999);
        rate("0 - 1", 0);
        coin("998 + 1", 999);
        coin("9999 + 1", 0);
        coin("0 - 1", 0);
        coin("0 - 9999 * 9999", 0);
        most("0 - 10", 0);
        most("0 - 2048*1024*1024", 0);
        most("20", 20);
        // 30000 coins at 1 would do for 9999 sacks and more, LOAD does for 500.
        most("9999 + 1", 500);
        mostOverMonth();
    }

    private static void rate(String e, long want) {
        SaltOffice x = Check.office("fort f at p0 eats 0 store 0;" + SPOT.replace("grain 0", "grain 10"), "rate " + e + ";", 10);
        x.costs(0, 1, 0, 9999, 999);
        x.run(0, 0, 0);
        Check.due("rate " + e, x.way(0, 4), want == 0 ? 0 : want - 10);
        Check.due("way by rate " + e, x.way(0, 0), want == 0 ? 0 : 1);
    }

    /** What ten sacks cost the only MERCHANT who buys; 0 where none are bought. */
    private static void coin(String e, long want) {
        SaltOffice x = Check.office(SPOT.replace("price 1", "price 999"), "most 10;coin " + e + ";", 30000);
        x.costs(0, 50, 0, 9999, 999);
        x.run(0, 1, 0);
        // At 999 a sack there would be no gain: as much as WORTH.
        Check.due("coin " + e, x.ran(2), 0);
        SaltOffice y = Check.office("pan s at p0 makes 7 7 7 7 7 7 7 7 7 7 7 7 serves 0;town t at p0 of 0 wants 9 price 999 grain 0 cost 1;",
            "most 10;coin " + e + ";", 30000);
        y.run(0, 1, 0);
        Check.due("coin " + e + ", below WORTH", y.ran(2), 10 * want);
    }

    private static void most(String e, long want) {
        SaltOffice x = Check.office(SPOT.replace("price 1", "price 9"), "coin 1;most " + e + ";", 30000);
        x.costs(0, 50, 0, 9999, 999);
        int papers = x.run(0, 1, 0);
        Check.due("PAPERS by most " + e, papers, want == 0 ? 0 : 1);
        Check.due("most " + e, x.ran(7), want);
    }

    private static void mostOverMonth() {
        // The six can't buy more than 500 each, so what MOST leaves shows only below that: 3000 of them.
        SaltOffice x = Check.office(SPOT.replace("price 1", "price 9"), "coin 1;most 2999;", 30000, 30000, 30000, 30000, 30000, 30000);
        x.costs(0, 50, 0, 9999, 999);
        x.run(0, 1, 0);
        Check.due("sacks bought by most 2999", x.ran(7), 2990);
        Check.due("those of the last", x.paper(5, 2), 490);
    }

    private static void guard(String line, int caught) {
        // 100 sacks come to a in MONTH 2, none is used; a tenth of them goes.
        SaltOffice x = Check.office("pan s at p0 makes 100 0 0 0 0 0 0 0 0 0 0 0 serves 0;town a at p0 of 0 wants 0 price 10 grain 0 cost 1;"
            + "town b at p0 of 1 wants 20 price 100 grain 0 cost 1;", "coin 1*(month=0);most 100;" + line, 100);
        x.costs(0, 10, 0, 9999, 999);
        x.run(0, 3, 0);
        Check.due("caught by '" + line + "'", x.ran(4), caught);
        Check.due("smuggled by '" + line + "'", x.ran(3), 10 - caught);
    }

    private static void guardToAHundred() {
        Check.sentence("guard above 100 is 100");
        guard("guard 0;", 0);
        guard("guard 0 - 1;", 0);
        guard("guard 0 - 2048*1024*1024;", 0);
        guard("guard 9;", 0);
        guard("guard 10;", 1);
        guard("guard 19;", 1);
        guard("guard 99;", 9);
        guard("guard 100;", 10);
        guard("guard 101;", 10);
        guard("guard 110;", 10);
        guard("guard 9999*9999;", 10);
    }

    private static void yearAndMonth() {
        Check.sentence("year: 0 .. (MONTHS of the run / 12, cut); month: 0 .. 11");
        int[] runs = {0, 1, 11, 12, 13, 23, 24, 119, 120, 239, 240};
        for (int n : runs) {
            Check.due("year behind " + n, tax("year", n), n / 12);
            Check.due("month behind " + n, tax("month", n), n % 12);
        }
        Check.due("year behind 240", tax("year", 240), 20);
    }

    /** The rate at a FORT in the MONTH that comes first, by what carrying one ten gains; WORTH is 1, it costs 10. */
    private static void rateAt(String fort, String e, long want) {
        SaltOffice x = Check.office(fort + SPOT.replace("grain 0", "grain 10"), "rate 1000 + " + e + ";", 10);
        x.costs(0, 1, 0, 9999, 999);
        x.run(0, 0, 0);
        Check.due(e + " at " + fort, x.way(0, 4), 990 + want);
    }

    private static void storeAndNeed() {
        Check.sentence("store: what the FORT has; need: store / eats (9999 if it eats 0)");
        rateAt("fort f at p0 eats 0 store 0;", "store", 0);
        rateAt("fort f at p0 eats 0 store 8999;", "store", 8999);
        rateAt("fort f at p0 eats 0 store 0;", "(need=9999)", 1);
        rateAt("fort f at p0 eats 0 store 7;", "(need=9999)", 1);
        rateAt("fort f at p0 eats 1 store 7;", "need", 7);
        rateAt("fort f at p0 eats 2 store 7;", "need", 3);
        rateAt("fort f at p0 eats 7 store 7;", "need", 1);
        rateAt("fort f at p0 eats 8 store 7;", "need", 0);
        rateAt("fort f at p0 eats 999 store 0;", "need", 0);
        rateAt("fort f at p0 eats 1 store 9999;", "(need=9999)", 1);
    }

    private static void daysOfTheGrain() {
        Check.sentence("days: of the way of the grain to the FORT (of a PAPER: with which it was earned; 0 if it was bought)");
        String land = "road p0 p1 40;road p1 p2 50;fort f at p0 eats 0 store 0;pan s at p0 makes 9 9 9 9 9 9 9 9 9 9 9 9 serves 0;"
            + "town t at p2 of 0 wants 0 price 500 grain 10 cost 1;";
        SaltOffice x = Check.office(land, "rate 1*(days=90)*(month=0);class days=90;", 10);
        x.costs(0, 1, 0, 9999, 999);
        x.run(0, 4, 0);
        Check.due("carried by 90 days", x.book(0, 0, 2), 500 - 10);
        Check.due("paper(0, 4)", x.paper(0, 4), 90);
        // A farm's: 0. Its rate in MONTH 12, its PAPER's class in MONTH 13.
        SaltOffice y = Check.office(land.replace("grain 10", "grain 0"), "rate (days=0)*(month=0)*2;", 1000);
        y.costs(0, 1, 0, 10, 5);
        y.run(0, 13, 0);
        Check.due("farmed by 0 days", y.book(0, 12, 1), 2);
        Check.due("paper(0, 4) of a farm", y.paper(0, 4), 0);
        // Bought: 0, though the town is far off.
        Check.reform(y, 1, "coin 1;most 10;class days;");
        y.run(1, 1, 0);
        Check.due("paper(0, 4) when bought", y.paper(0, 4), 0);
    }

    private static void waitingAndMade() {
        Check.sentence("waiting: sacks of all PAPERS that wait; made: salt in all PANS");
        SaltOffice x = Check.office("pan s at p0 makes 3 3 3 3 3 3 3 3 3 3 3 3 serves 0;pan r at p0 makes 4 4 4 4 4 4 4 4 4 4 4 4 serves 1;"
            + "pan q at p0 makes 5 5 5 5 5 5 5 5 5 5 5 5 serves 2;town t at p0 of 0 wants 0 price 100 grain 0 cost 1;"
            + "town u at p0 of 1 wants 0 price 2 grain 0 cost 1;", "tax made;");
        int[] runs = {0, 1, 5};
        for (int n : runs) {
            x.run(0, n, 0);
            Check.due("made behind " + n, x.worth(0), 100 - 12 * n);
        }
        // Two MERCHANTS' PAPERS at two PANS: the second's WORTH is less by what waits at the first.
        SaltOffice y = Check.office("pan s at p0 makes 0 0 0 0 0 0 0 0 0 0 0 0 serves 0;pan r at p0 makes 0 0 0 0 0 0 0 0 0 0 0 0 serves 1;"
            + "town t at p0 of 0 wants 0 price 100 grain 0 cost 1;town u at p0 of 1 wants 0 price 95 grain 0 cost 1;",
            "tax waiting;coin (month=0);most 100;", 10, 10);
        y.costs(0, 1, 1, 9999, 999);
        y.run(0, 1, 0);
        Check.due("PAN of the first", y.paper(0, 1), 0);
        Check.due("PAN of the second", y.paper(1, 1), 1);
        Check.due("waiting: 20", y.worth(0), 100 - 20 - 10);
    }

    private static void toldOnceAMonth() {
        Check.sentence("coin, most, tax, guard are told once a MONTH, behind (a)");
        // In MONTH 0 the PAN has just made 7: coin is 7, and stays so for the second though then 10 wait.
        SaltOffice x = Check.office(SPOT.replace("price 1", "price 90"), "coin made + waiting;most 100;", 70, 170);
        x.costs(0, 1, 0, 9999, 999);
        x.run(0, 1, 0);
        Check.due("coins of the first", x.book(0, 0, 0), 0);
        Check.due("coins of the second", x.book(1, 0, 0), 100);
        // most likewise: 17 for both, so 7 are left for the second, which are no ten.
        SaltOffice y = Check.office(SPOT.replace("price 1", "price 90"), "coin 1;most made + 10 + waiting;", 100, 100);
        y.costs(0, 1, 0, 9999, 999);
        Check.due("PAPERS", y.run(0, 1, 0), 1);
        // tax: told ahead of what comes in (b) and of (c): in MONTH 1 the 7 sacks of MONTH 0 still wait then, and 14 are made.
        SaltOffice z = Check.office(SPOT.replace("price 1", "price 90").replace("makes 7", "makes 10"), "coin (month=0);most 10;tax waiting;", 10);
        z.costs(0, 1, 0, 9999, 999);
        z.run(0, 3, 0);
        Check.due("drawn in MONTH 1", z.paper(0, 6), 1);
        Check.due("the tax of MONTH 2", z.ran(2), 10);
        Check.due("coins of MONTH 2", z.book(0, 2, 0), 10 * 90);
        Check.reform(z, 1, "coin (month=0);most 10;tax 9*(made=14)*(month=2);");
        z.run(1, 3, 0);
        // 10 + 7 + 7 less 10 drawn in MONTH 1 are in the PAN behind (a) of MONTH 2.
        Check.due("made behind (a) of MONTH 2", z.ran(2), 10 + 90);
    }

    private static void rateAsItIsAskedFor() {
        Check.sentence("rate as it is asked for");
        // The first's farm of nothing yet; what is bought by the first waits as the second asks.
        SaltOffice x = Check.office("fort f at p0 eats 0 store 0;" + SPOT.replace("price 1", "price 90").replace("grain 0", "grain 20"),
            "rate 1 + (waiting=0);coin 88;most 10;", 10, 10);
        x.costs(0, 1, 0, 9999, 999);
        x.run(0, 1, 0);
        Check.due("the first's gain", x.book(0, 0, 2), 180 - 10);
        Check.due("the second's gain, with none waiting", x.book(1, 0, 2), 180 - 10);
        Check.reform(x, 1, "rate 1 + 8*(waiting=10)*(month=0);coin 1*(month=0);most 10;");
        x.run(1, 1, 0);
        Check.due("the first buys", x.book(0, 0, 1), 4);
        Check.due("the second carries", x.book(1, 0, 1), 1);
        Check.due("at a rate of what waits now", x.book(1, 0, 2), 9 * 90 - 10);
    }

    private static void classOfAPaper() {
        Check.sentence("A PAPER's CLASS is the number of the first class line whose e is not 0 for it; how many there are, if none is");
        // Three PAPERS for 10, 20 and 30 sacks, bought in MONTH 0; in MONTH 1 there is salt for all but the last drawn.
        drawn("", "first second");
        drawn("class 0;", "first second");
        drawn("class sacks=30;", "third first");
        drawn("class sacks=20;class sacks=30;", "second third");
        drawn("class sacks=30;class 1;", "third first");
        drawn("class sacks=30;class 0;class sacks=20;", "third second");
        // The first line that fits counts, and below 0 is not 0.
        drawn("class 0-(sacks=30);", "third first");
        drawn("class sacks>10;class sacks=10;", "second third");
        drawn("class sacks=20;class sacks>0;class sacks=30;", "second first");
        drawn("class 0;class 0;class 0;class 0;class sacks=30;", "third first");
        drawn("class bought;", "first second");
        drawn("class not bought;", "first second");
    }

    private static void drawn(String classes, String firstTwo) {
        String[] names = {"first", "second", "third"};
        int salt = 0;
        for (int i = 0; i < 3; i++) {
            salt += firstTwo.contains(names[i]) ? 10 * (i + 1) : 0;
        }
        SaltOffice x = Check.office("pan s at p0 makes 0 " + salt + " 0 0 0 0 0 0 0 0 0 0 serves 0;town t at p0 of 0 wants 0 price 100 grain 0 cost 1;",
            "coin (month=0);most 60;" + classes, 10, 20, 30);
        x.costs(0, 50, 0, 9999, 999);
        x.run(0, 2, 0);
        for (int i = 0; i < 3; i++) {
            Check.due(classes + " " + names[i], x.paper(i, 6), firstTwo.contains(names[i]) ? 1 : -1);
        }
    }

    private static void classByDays() {
        Check.sentence("days: .. of a PAPER: with which it was earned; 0 if it was bought");
        String land = "road p0 p1 5;road p0 p2 9;fort f at p0 eats 0 store 0;pan s at p0 makes 0 0 10 0 0 0 0 0 0 0 0 0 serves 0;"
            + "town t at p1 of 0 wants 0 price 500 grain 10 cost 1;town u at p2 of 1 wants 0 price 1 grain 10 cost 1;";
        // The first carries by 5 days, the second by 9, the third buys; all PAPERS wait in MONTH 1, that of the third given first.
        String[] lines = {"class days=0;", "class days=5;", "class days=9;", "class days>5;", "class days;"};
        int[] first = {0, 1, 2, 2, 1};
        for (int i = 0; i < lines.length; i++) {
            SaltOffice x = Check.office(land, "rate 10*(month=0);coin 400*(month=0);most 10;" + lines[i], 10, 10, 4000);
            x.costs(0, 1, 0, 9999, 999);
            Check.due("PAPERS", x.run(0, 3, 0), 3);
            Check.due("bought", x.paper(0, 5), 1);
            Check.due("by 5 days", x.paper(1, 4), 5);
            Check.due("by 9 days", x.paper(2, 4), 9);
            for (int p = 0; p < 3; p++) {
                Check.due(lines[i] + " PAPER " + p, x.paper(p, 6), p == first[i] ? 2 : -1);
            }
        }
    }

    private static void classAsDrawingBegins() {
        Check.sentence("told for all that wait as (c) below begins");
        // 60 wait and 60 are made as (c) begins, for every PAPER of it, though the PAN's salt grows less meanwhile.
        drawn("class sacks=30 and waiting=60;", "third first");
        drawn("class sacks=30 and made=40;", "third first");
        drawn("class sacks=30 and age=1;", "third first");
        drawn("class sacks=30 and age=0;", "first second");
        drawn("class sacks=30 and waiting=60 and made=50;class sacks=20 and waiting=60 and made=50;", "third second");
        drawn("class sacks=30 and month=1 and year=0;", "third first");
        // What comes in (b) of the same MONTH waits by then: grain of one ten for 10 sacks, age 0.
        SaltOffice x = Check.office("road p0 p1 1;fort f at p0 eats 0 store 0;pan s at p0 makes 0 10 0 0 0 0 0 0 0 0 0 0 serves 0;"
            + "town t at p1 of 0 wants 0 price 100 grain 10 cost 1;", "coin 1;most 10*(month=0);rate 10*(month=0);class age=0 and waiting=20 and days=1;", 10, 10);
        x.costs(0, 1, 0, 9999, 999);
        x.run(0, 2, 0);
        Check.due("one carries, one buys", x.book(0, 0, 1) * 10 + x.book(1, 0, 1), 14);
        Check.due("the carried one's PAPER", x.paper(1, 4), 1);
        Check.due("draws ahead of the bought one", x.paper(1, 6), 1);
        Check.due("which waits", x.paper(0, 6), -1);
    }
}
