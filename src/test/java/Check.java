/** What the tests of the promises share: texts put on the TAPE, and answers held against those that are due. */
final class Check {
    static final String LAND = "road p0 p1 30; fort gate at p0 eats 20 store 100; pan sea at p1 makes 50 50 50 50 50 50 50 50 50 50 50 50 "
        + "serves 0; town york at p1 of 0 wants 40 price 12 grain 200 cost 2;";
    static final long NO_WORTH = -1000000000000L;
    private static int wrong = 0;
    private static int asked = 0;
    private static String sentence = "";

    private Check() {
    }

    /** What is due from here on is due by this sentence of the document. */
    static void sentence(String words) {
        sentence = words + " | ";
    }

    static void due(String call, long got, long want) {
        asked++;
        if (got != want) {
            wrong++;
            System.out.println(sentence + call + " answered " + got + ", due is " + want);
        }
    }

    static void due(String call, boolean got, boolean want) {
        due(call, got ? 1 : 0, want ? 1 : 0);
    }

    /** The text comes behind what is on the TAPE already. */
    static void put(SaltOffice x, String text) {
        int before = x.about(7);
        for (int at = 0; at < text.length(); at += 20) {
            int[] n = new int[5];
            for (int i = 0; i < 20; i++) {
                n[i / 4] = n[i / 4] << 8 | (at + i < text.length() ? text.charAt(at + i) : ' ');
            }
            x.feed(n[0], n[1], n[2], n[3], n[4]);
        }
        x.end(before + text.length());
    }

    static int land(SaltOffice x, String text) {
        put(x, text);
        return x.land();
    }

    static int reform(SaltOffice x, int shelf, String text) {
        put(x, text);
        return x.reform(shelf);
    }

    static SaltOffice office(String land, String reform, int... merchants) {
        SaltOffice x = new SaltOffice();
        due("lines of " + land, land(x, land) > 0, !land.isEmpty());
        due("lines of " + reform, reform(x, 0, reform) >= 0, true);
        for (int coins : merchants) {
            x.merchant(coins);
        }
        return x;
    }

    /** A LAND's text that is at FAULT, on a new object. */
    static void landFault(String text, int fault, int place) {
        SaltOffice x = new SaltOffice();
        due("land: " + text, land(x, text), -1);
        faults(x, "land: " + text, fault, place);
    }

    static void reformFault(String text, int fault, int place) {
        SaltOffice x = new SaltOffice();
        due("reform: " + text, reform(x, 1, text), -1);
        faults(x, "reform: " + text, fault, place);
    }

    private static void faults(SaltOffice x, String text, int fault, int place) {
        due(text + " fault(0)", x.fault(0), fault);
        due(text + " fault(1)", x.fault(1), place);
    }

    static void landGood(String text, int lines) {
        SaltOffice x = new SaltOffice();
        due("land: " + text, land(x, text), lines);
        faults(x, text, 0, -1);
    }

    static void reformGood(String text, int lines) {
        SaltOffice x = new SaltOffice();
        due("reform: " + text, reform(x, 0, text), lines);
        faults(x, text, 0, -1);
    }

    static String times(String text, int n) {
        StringBuilder s = new StringBuilder();
        for (int i = 0; i < n; i++) {
            s.append(text);
        }
        return s.toString();
    }

    static void done() {
        System.out.println(wrong == 0 ? asked + " answers are as due" : wrong + " of " + asked + " answers are not as due");
        if (wrong != 0) {
            System.exit(1);
        }
    }
}
