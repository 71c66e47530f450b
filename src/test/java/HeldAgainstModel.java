import java.util.Random;

/** Runs of calls, made by seeds, on the class and on the plain model of the document: all answers are to be like. */
public final class HeldAgainstModel {
    private static final String[] WORDS = ("road fort at eats store pan makes serves town of wants price grain cost rate class coin most "
        + "tax guard and or not year month need days waiting age sacks bought made p p1 p12 p16 a ab toolongword ; ( ) < > = + - * / "
        + "0 1 7 30 99 100 999 9999 12345 3a ! A \t").split(" ");
    private static int wrong = 0;
    private static final long[] reached = new long[16];

    private final Random dice;
    // Every third seed has long RUNS, rich MERCHANTS, cheap FARMS and FACTS that meet in one MONTH.
    private final boolean harsh;
    private final SaltOffice office = new SaltOffice();
    private final SaltModel model = new SaltModel();
    private final StringBuilder told = new StringBuilder();
    private int calls = 0;
    private boolean failed = false;

    private HeldAgainstModel(long seed) {
        dice = new Random(seed);
        harsh = seed % 3 == 0;
    }

    public static void main(String[] args) {
        int runs = args.length > 0 ? Integer.parseInt(args[0]) : 400;
        long first = args.length > 1 ? Long.parseLong(args[1]) : 1;
        for (long seed = first; seed < first + runs && wrong < 5; seed++) {
            HeldAgainstModel run = new HeldAgainstModel(seed);
            run.play();
            if (run.failed) {
                wrong++;
                System.out.println("seed " + seed + ":\n" + run.told);
            }
        }
        String[] names = {"stays", "carries", "farms", "founds", "buys", "starved", "smuggled", "caught", "drawn", "gone", "dead", "waits"};
        for (int i = 0; i < names.length; i++) {
            System.out.print(names[i] + " " + reached[i] + " ");
            if (reached[i] == 0 && runs >= 100) {
                wrong++;
                System.out.print("(never reached) ");
            }
        }
        System.out.println(wrong == 0 ? "\nall answers are like the model's" : "\nsome answers are not like the model's");
        if (wrong != 0) {
            System.exit(1);
        }
    }

    private int roll(int n) {
        return dice.nextInt(n);
    }

    private void like(String call, long got, long want) {
        calls++;
        if (failed) {
            return;
        }
        told.append(call).append(" = ").append(got);
        if (got != want) {
            failed = true;
            told.append(", but the model says ").append(want);
        }
        told.append('\n');
    }

    private void play() {
        if (roll(4) == 0) {
            readTexts();
            return;
        }
        int merchants = roll(7);
        for (int i = 0; i < merchants; i++) {
            int coins = roll(harsh ? 2 : 5) == 0 ? roll(30001) : roll(3000);
            like("merchant(" + coins + ")", office.merchant(coins), model.merchant(coins));
        }
        makeLand(false);
        for (int i = 0; i < 4; i++) {
            makeReform(i, false);
        }
        for (int i = 0; i < 400 && calls < 470 && !failed; i++) {
            anyCall();
        }
    }

    // ---- texts ----

    private void put(String text) {
        int at = 0;
        while (at < text.length()) {
            int[] n = new int[5];
            for (int i = 0; i < 20; i++) {
                char c = at + i < text.length() ? text.charAt(at + i) : ' ';
                n[i / 4] = n[i / 4] << 8 | c;
            }
            like("feed", office.feed(n[0], n[1], n[2], n[3], n[4]), model.feed(n[0], n[1], n[2], n[3], n[4]));
            at += 20;
        }
        told.append("# ").append(text).append('\n');
        like("end(" + text.length() + ")", office.end(text.length()), model.end(text.length()));
    }

    private void makeLand(boolean spoilt) {
        String text = land();
        put(spoilt ? spoil(text) : text);
        like("land()", office.land(), model.land());
        askFault();
    }

    private void makeReform(int shelf, boolean spoilt) {
        String text = reform();
        put(spoilt ? spoil(text) : text);
        like("reform(" + shelf + ")", office.reform(shelf), model.reform(shelf));
        askFault();
        like("about(7)", office.about(7), model.about(7));
        if (office.about(7) > 0) {
            like("end(0)", office.end(0), model.end(0));
        }
    }

    private void askFault() {
        like("fault(0)", office.fault(0), model.fault(0));
        like("fault(1)", office.fault(1), model.fault(1));
    }

    /** Many small texts, most of them with a FAULT. */
    private void readTexts() {
        for (int i = 0; i < 60 && calls < 400 && !failed; i++) {
            switch (roll(4)) {
                case 0: makeLand(true); break;
                case 1: makeReform(roll(4), true); break;
                case 2:
                    put(soup());
                    like("land()", office.land(), model.land());
                    askFault();
                    break;
                default:
                    put((roll(2) == 0 ? "class " : "rate ") + soup());
                    like("reform(0)", office.reform(0), model.reform(0));
                    askFault();
            }
            if (office.about(7) > 0) {
                like("end(0)", office.end(0), model.end(0));
            }
            like("about", office.about(i % 14), model.about(i % 14));
        }
    }

    private String soup() {
        StringBuilder s = new StringBuilder();
        for (int i = roll(30); i >= 0; i--) {
            s.append(WORDS[roll(WORDS.length)]);
            s.append(roll(5) == 0 ? "" : roll(9) == 0 ? "\n" : " ");
        }
        return s.substring(0, Math.min(s.length(), 300));
    }

    private String spoil(String text) {
        StringBuilder s = new StringBuilder(text);
        for (int i = roll(2); i >= 0 && s.length() > 0; i--) {
            int at = roll(s.length());
            switch (roll(5)) {
                case 0: s.deleteCharAt(at); break;
                case 1: s.insert(at, WORDS[roll(WORDS.length)]); break;
                case 2: s.insert(at, " " + WORDS[roll(WORDS.length)] + " "); break;
                case 3: s.setLength(at); break;
                default: s.setCharAt(at, (char) roll(256));
            }
        }
        return s.substring(0, Math.min(s.length(), 1600));
    }

    private String land() {
        StringBuilder s = new StringBuilder();
        int places = 1 + roll(6);
        int length = roll(3) == 0 ? 90 : 25;
        for (int i = roll(places == 1 ? 1 : 2 * places); i > 0; i--) {
            int a = roll(places);
            int b = (a + 1 + roll(places - 1)) % places;
            s.append("road p").append(a).append(" p").append(b).append(' ').append(1 + roll(length)).append(";");
        }
        for (int i = roll(4); i > 0; i--) {
            s.append("fort f").append((char) ('a' + i)).append(" at p").append(roll(places)).append(" eats ").append(roll(5) == 0 ? 0 : roll(120))
                .append(" store ").append(roll(400)).append("; ");
        }
        int most = roll(3) == 0 ? 999 : 120;
        for (int i = roll(5) == 0 ? 0 : 1 + roll(3); i > 0; i--) {
            s.append("pan s").append((char) ('a' + i)).append(" at p").append(roll(places)).append(" makes");
            for (int m = 0; m < 12; m++) {
                s.append(' ').append(roll(4) == 0 ? 0 : roll(most));
            }
            s.append(" serves");
            int from = roll(5);
            for (int d = roll(3); d >= 0; d--) {
                s.append(' ').append((from + d) % 5);
            }
            s.append(";");
        }
        for (int i = 1 + roll(5); i > 0; i--) {
            s.append("town t").append((char) ('a' + i)).append(" at p").append(roll(places)).append(" of ").append(roll(roll(2) == 0 ? 5 : 2))
                .append(" wants ").append(roll(6) == 0 ? 0 : 1 + roll(most)).append(" price ").append(1 + roll(roll(3) == 0 ? 900 : 60))
                .append(" grain ").append(roll(600)).append(" cost ").append(1 + roll(9)).append(";");
        }
        return s.toString();
    }

    private String reform() {
        StringBuilder s = new StringBuilder();
        if (roll(8) != 0) {
            s.append("rate ").append(roll(2) == 0 ? String.valueOf(roll(harsh && roll(3) == 0 ? 10000 : 40)) : expression("rate", harsh ? 3 : 2)).append("; ");
        }
        for (int i = roll(2) * roll(6); i > 0; i--) {
            s.append("class ").append(expression("class", harsh ? 3 : 2)).append(";");
        }
        if (roll(2) == 0) {
            s.append("coin ").append(roll(2) == 0 ? String.valueOf(1 + roll(40)) : expression("coin", 1)).append(";");
            s.append("most ").append(roll(2) == 0 ? String.valueOf(roll(400)) : expression("most", 1)).append(";");
        }
        if (roll(2) == 0) {
            s.append("tax ").append(roll(2) == 0 ? String.valueOf(roll(20)) : expression("tax", 1)).append(";\n");
        }
        if (roll(2) == 0) {
            s.append("guard ").append(roll(2) == 0 ? String.valueOf(roll(120)) : expression("guard", 1)).append(";");
        }
        return s.substring(0, Math.min(s.length(), roll(30) == 0 ? 800 : 700));
    }

    private String expression(String sort, int deep) {
        if (deep == 0 || roll(4) == 0) {
            String[] words = sort.equals("rate") ? new String[] {"year", "month", "waiting", "made", "store", "need", "days"}
                : sort.equals("class") ? new String[] {"year", "month", "waiting", "made", "age", "sacks", "bought", "days"}
                : new String[] {"year", "month", "waiting", "made"};
            if (roll(200) == 0) {
                return WORDS[roll(WORDS.length)];
            }
            return roll(2) == 0 ? words[roll(words.length)] : String.valueOf(roll(roll(3) == 0 ? 300 : 30));
        }
        String a = expression(sort, deep - 1);
        String b = expression(sort, deep - 1);
        String[] joints = {" + ", "-", "*", " / ", "<", " > ", " = ", " and ", " or "};
        switch (roll(6)) {
            case 0: return "not " + a;
            case 1: return "(" + a + ")" + joints[roll(4)] + b;
            case 2: return "( " + a + joints[roll(9)] + b + " )";
            default: return a + joints[roll(9)] + b;
        }
    }

    // ---- calls ----

    private int near(int n) {
        return roll(12) == 0 ? roll(3) == 0 ? -1 : n : roll(Math.max(1, n));
    }

    private void anyCall() {
        int kind = roll(100);
        if (kind < 10) {
            runOne();
        } else if (kind < 22) {
            tellFact();
        } else if (kind < 30) {
            askLand();
        } else if (kind < 32) {
            change();
        } else if (kind < 34) {
            int a = near(4);
            int b = near(4);
            int n = months();
            int k = knownAt();
            like("judge(" + a + ", " + b + ", " + n + ", " + k + ")", office.judge(a, b, n, k), model.judge(a, b, n, k));
        } else {
            askRun();
        }
    }

    private int months() {
        return roll(40) == 0 ? roll(2) == 0 ? -1 : 241 : roll(6) == 0 ? roll(harsh ? 241 : 100) : roll(harsh ? 60 : 30);
    }

    private int knownAt() {
        return roll(3) == 0 ? roll(model.time + 2) - 1 : model.time;
    }

    private void runOne() {
        int shelf = near(4);
        int n = months();
        int k = knownAt();
        like("run(" + shelf + ", " + n + ", " + k + ")", office.run(shelf, n, k), model.run(shelf, n, k));
        for (int i = 0; i <= 10; i++) {
            like("ran(" + i + ")", office.ran(i), model.ran(i));
        }
        askWhole();
    }

    /** Beyond the calls that are counted: whatever the RUN left is looked at. */
    private void askWhole() {
        int before = calls;
        if (model.last == null) {
            return;
        }
        for (int m = 0; m < model.last.n; m++) {
            for (int i = 0; i < 6; i++) {
                for (int what = 0; what < 3; what++) {
                    String at = "(" + i + ", " + m + ", " + what + ")";
                    like("fort" + at, office.fort(i, m, what), model.fort(i, m, what));
                    like("pan" + at, office.pan(i, m, what), model.pan(i, m, what));
                    like("town" + at, office.town(i, m, what), model.town(i, m, what));
                    like("book" + at, office.book(i, m, what), model.book(i, m, what));
                }
                long way = model.book(i, m, 1);
                reached[way < 0 ? 10 : (int) way] += i < model.merchants.size() ? 1 : 0;
            }
        }
        for (int p = 0; p < model.last.papers.size(); p++) {
            for (int what = 0; what < 8; what++) {
                like("paper(" + p + ", " + what + ")", office.paper(p, what), model.paper(p, what));
            }
            reached[9] += model.paper(p, 7);
        }
        reached[5] += model.ran(0);
        reached[6] += model.ran(3);
        reached[7] += model.ran(4);
        reached[8] += model.ran(9);
        reached[11] += model.ran(6);
        calls = before;
    }

    private void tellFact() {
        int month = roll(10) == 0 ? near(240) : harsh && roll(3) == 0 ? 5 : roll(harsh ? 60 : 25);
        int kind = roll(10);
        if (kind < 3) {
            int pan = near(model.land.pans.size());
            int percent = roll(12) == 0 ? roll(2) == 0 ? -1 : 301 : roll(301);
            like("weather(" + pan + ", " + month + ", " + percent + ")", office.weather(pan, month, percent), model.weather(pan, month, percent));
        } else if (kind < 5) {
            int paper = roll(10) == 0 ? near(2000) : roll(40);
            like("forged(" + paper + ", " + month + ")", office.forged(paper, month), model.forged(paper, month));
        } else if (kind < 7) {
            int merchant = near(model.merchants.size());
            int heir = roll(3) == 0 ? -1 : near(model.merchants.size());
            like("dead(" + merchant + ", " + month + ", " + heir + ")", office.dead(merchant, month, heir), model.dead(merchant, month, heir));
        } else if (kind < 9) {
            int fact = near(model.facts.size());
            like("untell(" + fact + ")", office.untell(fact) ? 1 : 0, model.untell(fact) ? 1 : 0);
        } else {
            int by = roll(6) == 0 ? roll(1200) - 100 : roll(4);
            like("later(" + by + ")", office.later(by), model.later(by));
        }
    }

    private void askLand() {
        int a = near(16);
        int b = near(16);
        like("days(" + a + ", " + b + ")", office.days(a, b), model.days(a, b));
        int what = roll(16) - 1;
        like("about(" + what + ")", office.about(what), model.about(what));
        like("fault(" + what + ")", office.fault(what), model.fault(what));
    }

    private void change() {
        switch (roll(6)) {
            case 0: makeLand(roll(2) == 0); break;
            case 1:
            case 2: makeReform(roll(4), roll(2) == 0); break;
            case 3:
                int coins = roll(40000) - 100;
                like("merchant(" + coins + ")", office.merchant(coins), model.merchant(coins));
                break;
            default:
                int h = roll(8) == 0 ? roll(110) - 5 : roll(5);
                int l = roll(8) == 0 ? roll(60) - 5 : 1 + roll(harsh ? 50 : 20);
                int p = roll(harsh ? 3 : 8) == 0 ? roll(110) - 5 : roll(4);
                int f = roll(8) == 0 ? roll(10100) - 50 : roll(harsh ? 100 : 500);
                int m = roll(8) == 0 ? roll(1100) - 50 : roll(harsh ? 10 : 40);
                like("costs(" + h + ", " + l + ", " + p + ", " + f + ", " + m + ")", office.costs(h, l, p, f, m) ? 1 : 0,
                    model.costs(h, l, p, f, m) ? 1 : 0);
        }
    }

    private void askRun() {
        int what = roll(9) - 1;
        int m = roll(32) - 1;
        int i = roll(7) - 1;
        switch (roll(6)) {
            case 0:
                like("ran(" + (what + 4) + ")", office.ran(what + 4), model.ran(what + 4));
                break;
            case 1:
                like("paper(" + m + ", " + what + ")", office.paper(m, what), model.paper(m, what));
                break;
            case 2:
            case 3:
                for (int w = -1; w < 6; w++) {
                    like("way(" + i + ", " + w + ")", office.way(i, w), model.way(i, w));
                }
                break;
            case 4:
                like("worth(" + (i - 1) + ")", office.worth(i - 1), model.worth(i - 1));
                break;
            default:
                like("book(" + i + ", " + m + ", " + what + ")", office.book(i, m, what), model.book(i, m, what));
                like("town(" + i + ", " + m + ", " + what + ")", office.town(i, m, what), model.town(i, m, what));
        }
    }
}
