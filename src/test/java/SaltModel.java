import java.util.ArrayList;
import java.util.Arrays;
import java.util.HashMap;
import java.util.HashSet;
import java.util.List;
import java.util.Map;
import java.util.Set;

/** A second SaltOffice, as plain as the document's words, to hold the class against: slow, with the whole Java library. */
final class SaltModel {
    static final List<String> KEYWORDS = Arrays.asList(("road fort at eats store pan makes serves town of wants price grain cost "
        + "rate class coin most tax guard and or not year month need days waiting age sacks bought made").split(" "));

    static final class Fault extends RuntimeException {
        final int kind;
        final int place;
        Fault(int kind, int place) {
            super(null, null, false, false);
            this.kind = kind;
            this.place = place;
        }
    }

    // ---- texts ----

    static final class Token {
        char kind;       // w word, n number, p place, s sign, e end
        String text;
        int place;
        int number;
    }

    static final class Lexer {
        final String text;
        final boolean places;
        int next = 0;
        Lexer(String text, boolean places) {
            this.text = text;
            this.places = places;
        }
        private boolean in(int i, String set) {
            return i < text.length() && set.indexOf(text.charAt(i)) >= 0;
        }
        Token read() {
            String letters = "abcdefghijklmnopqrstuvwxyz";
            String digits = "0123456789";
            while (in(next, " \n")) {
                next++;
            }
            Token t = new Token();
            t.place = next;
            if (next == text.length()) {
                t.kind = 'e';
                return t;
            }
            if (places && in(next, "p")) {
                int j = next + 1;
                while (in(j, digits)) {
                    j++;
                }
                int count = j - next - 1;
                if (count >= 1 && count <= 2 && !in(j, letters) && Integer.parseInt(text.substring(next + 1, j)) <= 15) {
                    t.kind = 'p';
                    t.number = Integer.parseInt(text.substring(next + 1, j));
                    next = j;
                    return t;
                }
            }
            if (in(next, letters)) {
                int j = next;
                while (in(j, letters)) {
                    j++;
                }
                if (j - next > 8) {
                    throw new Fault(1, next);
                }
                t.kind = 'w';
                t.text = text.substring(next, j);
                next = j;
                return t;
            }
            if (in(next, digits)) {
                int j = next;
                while (in(j, digits)) {
                    j++;
                }
                if (j - next > 4 || in(j, letters)) {
                    throw new Fault(1, next);
                }
                t.kind = 'n';
                t.number = Integer.parseInt(text.substring(next, j));
                next = j;
                return t;
            }
            if (in(next, ";()<>=+-*/")) {
                t.kind = 's';
                t.text = text.substring(next, next + 1);
                next++;
                return t;
            }
            throw new Fault(1, next);
        }
        Token peek() {
            int was = next;
            Token t = read();
            next = was;
            return t;
        }
        boolean sees(String what) {
            Token t = peek();
            return (t.kind == 'w' || t.kind == 's') && t.text.equals(what);
        }
        void need(String what) {
            Token t = read();
            if (!(t.kind == 'w' || t.kind == 's') || !t.text.equals(what)) {
                throw new Fault(2, t.place);
            }
        }
        int number(int least, int most) {
            Token t = read();
            if (t.kind != 'n') {
                throw new Fault(2, t.place);
            }
            if (t.number < least || t.number > most) {
                throw new Fault(4, t.place);
            }
            return t.number;
        }
        int number(String word, int least, int most) {
            need(word);
            return number(least, most);
        }
        Token p() {
            Token t = read();
            if (t.kind != 'p') {
                throw new Fault(2, t.place);
            }
            return t;
        }
    }

    static final class Fort { int place, eats, store; }
    static final class Pan { int place; int[] makes = new int[12]; Set<Integer> serves = new HashSet<>(); }
    static final class Town { int place, district, wants, price, grain, cost; }

    static final class Land {
        List<int[]> roads = new ArrayList<>();
        List<Fort> forts = new ArrayList<>();
        List<Pan> pans = new ArrayList<>();
        List<Town> towns = new ArrayList<>();
        int lines = 0;

        Land(String text) {
            Lexer x = new Lexer(text, true);
            Set<String> names = new HashSet<>();
            while (x.peek().kind != 'e') {
                Token first = x.read();
                String word = first.kind == 'w' ? first.text : "";
                if (word.equals("road") && roads.size() < 24) {
                    Token a = x.p();
                    Token b = x.p();
                    if (a.number == b.number) {
                        throw new Fault(4, b.place);
                    }
                    roads.add(new int[] {a.number, b.number, x.number(1, 90)});
                } else if (word.equals("fort") && forts.size() < 3) {
                    Fort f = new Fort();
                    name(x, names);
                    x.need("at");
                    f.place = x.p().number;
                    f.eats = x.number("eats", 0, 999);
                    f.store = x.number("store", 0, 9999);
                    forts.add(f);
                } else if (word.equals("pan") && pans.size() < 3) {
                    Pan p = new Pan();
                    name(x, names);
                    x.need("at");
                    p.place = x.p().number;
                    x.need("makes");
                    for (int i = 0; i < 12; i++) {
                        p.makes[i] = x.number(0, 999);
                    }
                    x.need("serves");
                    do {
                        int place = x.peek().place;
                        if (!p.serves.add(x.number(0, 4))) {
                            throw new Fault(4, place);
                        }
                    } while (x.peek().kind == 'n');
                    pans.add(p);
                } else if (word.equals("town") && towns.size() < 5) {
                    Town t = new Town();
                    name(x, names);
                    x.need("at");
                    t.place = x.p().number;
                    t.district = x.number("of", 0, 4);
                    t.wants = x.number("wants", 0, 999);
                    t.price = x.number("price", 1, 999);
                    t.grain = x.number("grain", 0, 999);
                    t.cost = x.number("cost", 1, 99);
                    towns.add(t);
                } else {
                    throw new Fault(2, first.place);
                }
                x.need(";");
                lines++;
            }
        }

        private static void name(Lexer x, Set<String> names) {
            Token t = x.read();
            if (t.kind != 'w' || KEYWORDS.contains(t.text)) {
                throw new Fault(2, t.place);
            }
            if (!names.add(t.text)) {
                throw new Fault(3, t.place);
            }
        }

        /** By rounds over the roads until nothing gets shorter. */
        int days(int a, int b) {
            if (a < 0 || a > 15 || b < 0 || b > 15) {
                return -1;
            }
            int[] far = new int[16];
            Arrays.fill(far, -1);
            far[a] = 0;
            boolean changed = true;
            while (changed) {
                changed = false;
                for (int[] r : roads) {
                    for (int side = 0; side < 2; side++) {
                        int from = r[side];
                        int to = r[1 - side];
                        if (far[from] >= 0 && (far[to] < 0 || far[to] > far[from] + r[2])) {
                            far[to] = far[from] + r[2];
                            changed = true;
                        }
                    }
                }
            }
            return far[b];
        }
    }

    interface Expression {
        int of(Map<String, Integer> env);
    }

    static final class Reform {
        Map<String, Expression> single = new HashMap<>();
        List<Expression> classes = new ArrayList<>();
        int lines = 0;
        private int units = 0;
        private String sort;
        private Lexer x;

        Reform(String text) {
            x = new Lexer(text, false);
            while (x.peek().kind != 'e') {
                Token t = x.read();
                boolean known = t.kind == 'w' && Arrays.asList("rate", "class", "coin", "most", "tax", "guard").contains(t.text);
                if (!known || single.containsKey(t.text) || t.text.equals("class") && classes.size() == 5) {
                    throw new Fault(2, t.place);
                }
                sort = t.text;
                Expression e = either(0);
                x.need(";");
                if (sort.equals("class")) {
                    classes.add(e);
                } else {
                    single.put(sort, e);
                }
                lines++;
            }
        }

        private Expression either(int within) {
            Expression left = both(within);
            while (x.sees("or")) {
                x.read();
                Expression a = left;
                Expression b = both(within);
                left = env -> a.of(env) != 0 | b.of(env) != 0 ? 1 : 0;
            }
            return left;
        }

        private Expression both(int within) {
            Expression left = one(within);
            while (x.sees("and")) {
                x.read();
                Expression a = left;
                Expression b = one(within);
                left = env -> a.of(env) != 0 & b.of(env) != 0 ? 1 : 0;
            }
            return left;
        }

        private Expression one(int within) {
            if (x.sees("not")) {
                if (within == 7) {
                    throw new Fault(2, x.peek().place);
                }
                x.read();
                Expression a = one(within + 1);
                return env -> a.of(env) == 0 ? 1 : 0;
            }
            Expression a = sum(within);
            if (x.sees("<")) {
                x.read();
                Expression b = sum(within);
                return env -> a.of(env) < b.of(env) ? 1 : 0;
            }
            if (x.sees(">")) {
                x.read();
                Expression b = sum(within);
                return env -> a.of(env) > b.of(env) ? 1 : 0;
            }
            if (x.sees("=")) {
                x.read();
                Expression b = sum(within);
                return env -> a.of(env) == b.of(env) ? 1 : 0;
            }
            return a;
        }

        private Expression sum(int within) {
            Expression left = term(within);
            while (x.sees("+") || x.sees("-")) {
                boolean plus = x.read().text.equals("+");
                Expression a = left;
                Expression b = term(within);
                left = env -> plus ? a.of(env) + b.of(env) : a.of(env) - b.of(env);
            }
            return left;
        }

        private Expression term(int within) {
            Expression left = unit(within);
            while (x.sees("*") || x.sees("/")) {
                boolean times = x.read().text.equals("*");
                Expression a = left;
                Expression b = unit(within);
                left = env -> times ? a.of(env) * b.of(env) : b.of(env) == 0 ? 0 : a.of(env) / b.of(env);
            }
            return left;
        }

        private Expression unit(int within) {
            Token t = x.read();
            boolean opens = t.kind == 's' && t.text.equals("(");
            List<String> all = Arrays.asList("year", "month", "waiting", "made");
            List<String> some = Arrays.asList("store", "need", "days", "age", "sacks", "bought");
            boolean word = t.kind == 'w' && (all.contains(t.text) || some.contains(t.text));
            if (!opens && !word && t.kind != 'n') {
                throw new Fault(2, t.place);
            }
            units++;
            if (units > 100 || opens && within == 7) {
                throw new Fault(2, t.place);
            }
            if (word && some.contains(t.text)) {
                List<String> mine = sort.equals("rate") ? Arrays.asList("store", "need", "days")
                    : sort.equals("class") ? Arrays.asList("age", "sacks", "bought", "days") : Arrays.asList();
                if (!mine.contains(t.text)) {
                    throw new Fault(5, t.place);
                }
            }
            if (opens) {
                Expression e = either(within + 1);
                x.need(")");
                return e;
            }
            return word ? env -> env.get(t.text) : env -> t.number;
        }

        int tell(String what, Map<String, Integer> env) {
            int value = single.containsKey(what) ? single.get(what).of(env) : 0;
            return Math.max(0, Math.min(what.equals("guard") ? 100 : 9999, value));
        }
    }

    // ---- what is kept ----

    static final class Fact { char kind; int subject, month, value, told, untold = -1; }

    StringBuilder tape = new StringBuilder();
    Land land = new Land("");
    Reform[] shelves = {new Reform(""), new Reform(""), new Reform(""), new Reform("")};
    Fault fault = null;
    List<Integer> merchants = new ArrayList<>();
    int haul = 1, load = 5, patience = 1, founding = 500, farming = 20;
    List<Fact> facts = new ArrayList<>();
    int time = 0;
    Run last = null;

    int feed(int a, int b, int c, int d, int e) {
        if (tape.length() + 20 > 1600) {
            return -1;
        }
        for (int n : new int[] {a, b, c, d, e}) {
            tape.append((char) (n >>> 24)).append((char) (n >> 16 & 255)).append((char) (n >> 8 & 255)).append((char) (n & 255));
        }
        return tape.length();
    }

    int end(int n) {
        if (n < 0 || n > tape.length()) {
            return -1;
        }
        tape.setLength(n);
        return n;
    }

    int land() {
        String text = tape.toString();
        tape.setLength(0);
        try {
            land = new Land(text);
        } catch (Fault f) {
            fault = f;
            return -1;
        }
        fault = null;
        facts.clear();
        last = null;
        return land.lines;
    }

    int reform(int shelf) {
        if (shelf < 0 || shelf > 3 || tape.length() > 700) {
            return -2;
        }
        String text = tape.toString();
        tape.setLength(0);
        try {
            shelves[shelf] = new Reform(text);
        } catch (Fault f) {
            fault = f;
            return -1;
        }
        fault = null;
        return shelves[shelf].lines;
    }

    int fault(int what) {
        return what == 0 ? fault == null ? 0 : fault.kind : what == 1 ? fault == null ? -1 : fault.place : -1;
    }

    int days(int a, int b) {
        return land.days(a, b);
    }

    int merchant(int coins) {
        if (coins < 0 || coins > 30000 || merchants.size() == 6) {
            return -1;
        }
        merchants.add(coins);
        last = null;
        return merchants.size() - 1;
    }

    boolean costs(int h, int l, int p, int f, int m) {
        if (h < 0 || h > 99 || l < 1 || l > 50 || p < 0 || p > 99 || f < 0 || f > 9999 || m < 0 || m > 999) {
            return false;
        }
        haul = h;
        load = l;
        patience = p;
        founding = f;
        farming = m;
        last = null;
        return true;
    }

    private int fact(char kind, int subject, int month, int value) {
        if (month < 0 || month > 239 || facts.size() == 40) {
            return -1;
        }
        Fact f = new Fact();
        f.kind = kind;
        f.subject = subject;
        f.month = month;
        f.value = value;
        f.told = time;
        facts.add(f);
        return facts.size() - 1;
    }

    int weather(int pan, int month, int percent) {
        return pan < 0 || pan >= land.pans.size() || percent < 0 || percent > 300 ? -1 : fact('w', pan, month, percent);
    }

    int forged(int paper, int month) {
        return paper < 0 || paper > 1999 ? -1 : fact('f', paper, month, 0);
    }

    int dead(int m, int month, int heir) {
        boolean good = m >= 0 && m < merchants.size() && heir >= -1 && heir < merchants.size() && heir != m;
        return good ? fact('d', m, month, heir) : -1;
    }

    boolean untell(int n) {
        if (n < 0 || n >= facts.size() || facts.get(n).untold >= 0) {
            return false;
        }
        facts.get(n).untold = time;
        return true;
    }

    int later(int by) {
        if (by < 0 || by > 1000 || time + by > 100000) {
            return -1;
        }
        time += by;
        return time;
    }

    int run(int shelf, int n, int k) {
        if (shelf < 0 || shelf > 3 || n < 0 || n > 240) {
            return -1;
        }
        last = new Run(shelves[shelf], n, k);
        return last.papers.size();
    }

    long ran(int what) {
        if (last == null || what < 0 || what > 10) {
            return -1;
        }
        return new long[] {last.starved, last.sold, last.state, last.smuggled, last.caught, last.lost, last.waitingPapers(),
            last.waiting(-1), last.waited, last.drawn, last.n}[what];
    }

    int fort(int f, int m, int what) {
        return (int) record("fort", f, m, what);
    }

    int pan(int p, int m, int what) {
        return (int) record("pan", p, m, what);
    }

    int town(int t, int m, int what) {
        return (int) record("town", t, m, what);
    }

    long book(int b, int m, int what) {
        return record("book", b, m, what);
    }

    private long record(String sort, int number, int m, int what) {
        return last == null ? -1 : last.records.getOrDefault(sort + " " + number + " " + m + " " + what, -1L);
    }

    int paper(int p, int what) {
        if (last == null || p < 0 || p >= last.papers.size() || what < 0 || what > 7) {
            return -1;
        }
        Paper x = last.papers.get(p);
        return new int[] {x.holder, x.pan, x.sacks, x.given, x.days, x.bought ? 1 : 0, x.drew, x.gone ? 1 : 0}[what];
    }

    long way(int m, int what) {
        if (last == null || m < 0 || m >= merchants.size() || last.dead(m) || what < 0 || what > 4) {
            return -1;
        }
        Choice c = last.choose(m);
        return new long[] {c.number, c.fort, c.town, c.number == 3 ? 1 : c.n, c.gain}[what];
    }

    long worth(int p) {
        return last == null || p < 0 || p >= land.pans.size() || last.worth(p) == null ? -1000000000000L : last.worth(p)[0];
    }

    int judge(int a, int b, int n, int k) {
        if (a < 0 || a > 3 || b < 0 || b > 3 || n < 0 || n > 240) {
            return -1;
        }
        Run x = new Run(shelves[a], n, k);
        Run y = new Run(shelves[b], n, k);
        if (x.starved != y.starved) {
            return x.starved < y.starved ? 0 : 1;
        }
        if (x.drawn == 0 && y.drawn > 0 || x.drawn > 0 && y.drawn == 0) {
            return x.drawn > 0 ? 0 : 1;
        }
        if (x.drawn > 0 && x.waited * y.drawn != y.waited * x.drawn) {
            return x.waited * y.drawn < y.waited * x.drawn ? 0 : 1;
        }
        return x.state == y.state ? 2 : x.state > y.state ? 0 : 1;
    }

    int about(int what) {
        if (what >= 10 && what <= 13) {
            return shelves[what - 10].lines;
        }
        if (what < 0 || what > 7) {
            return -1;
        }
        return new int[] {land.forts.size(), land.pans.size(), land.towns.size(), land.roads.size(), merchants.size(), facts.size(),
            time, tape.length()}[what];
    }

    // ---- a run ----

    static final class Paper { int holder, pan, sacks, given, days, drew = -1, rank; boolean bought, gone; }
    static final class Load { boolean grain; int owner, goal, amount, month, promised, pan, days; }
    static final class Choice { int number = 0, fort = -1, town = -1, n = 0, rate = 0, pan = -1; long gain = 0; }

    final class Run {
        final Reform reform;
        final int n;
        final Land ground = land;
        final int count = merchants.size();
        final int[] deadFrom = new int[6];
        final int[] heir = new int[6];
        final List<Paper> papers = new ArrayList<>();
        final List<Load> loads = new ArrayList<>();
        final Map<Integer, Integer> forged = new HashMap<>();
        final Map<String, Integer> farms = new HashMap<>();
        final Map<String, Long> records = new HashMap<>();
        final long[] coins = new long[6];
        final int[] store, salt, stock, grain;
        long starved, sold, state, smuggled, caught, lost, waited, drawn;
        int month, coin, most, tax, guard;

        Run(Reform reform, int n, int k) {
            this.reform = reform;
            this.n = n;
            store = ground.forts.stream().mapToInt(f -> f.store).toArray();
            salt = new int[ground.pans.size()];
            stock = new int[ground.towns.size()];
            grain = new int[ground.towns.size()];
            for (int i = 0; i < count; i++) {
                coins[i] = merchants.get(i);
            }
            Arrays.fill(deadFrom, Integer.MAX_VALUE);
            List<Fact> known = new ArrayList<>();
            for (Fact f : facts) {
                if (f.told <= k && !(f.untold >= 0 && f.untold <= k)) {
                    known.add(f);
                }
            }
            for (Fact f : known) {
                if (f.kind == 'd' && f.month <= deadFrom[f.subject]) {
                    deadFrom[f.subject] = f.month;
                    heir[f.subject] = f.value;
                }
                if (f.kind == 'f') {
                    forged.merge(f.subject, f.month, Math::min);
                }
            }
            for (month = 0; month < n; month++) {
                play(known);
            }
            tell();
        }

        boolean dead(int m) {
            return deadFrom[m] <= month;
        }

        boolean waits(Paper p) {
            return !p.gone && p.drew < 0;
        }

        long waitingPapers() {
            return papers.stream().filter(this::waits).count();
        }

        /** Sacks that wait at a PAN, or at all for -1. */
        int waiting(int pan) {
            int sum = 0;
            for (Paper p : papers) {
                if (waits(p) && (pan < 0 || p.pan == pan)) {
                    sum += p.sacks;
                }
            }
            return sum;
        }

        Map<String, Integer> env() {
            Map<String, Integer> env = new HashMap<>();
            env.put("year", month / 12);
            env.put("month", month % 12);
            env.put("waiting", waiting(-1));
            env.put("made", Arrays.stream(salt).sum());
            return env;
        }

        void tell() {
            coin = reform.tell("coin", env());
            most = reform.tell("most", env());
            tax = reform.tell("tax", env());
            guard = reform.tell("guard", env());
            for (int i = 0; i < grain.length; i++) {
                grain[i] = ground.towns.get(i).grain;
            }
        }

        int price(int t) {
            Town town = ground.towns.get(t);
            if (town.wants == 0) {
                return town.price;
            }
            long p = town.price * (3L * town.wants - stock[t]) / town.wants;
            return (int) Math.max(p, town.price / 4);
        }

        /** WORTH and the TOWN that gives it. */
        long[] worth(int p) {
            Pan pan = ground.pans.get(p);
            int a = Math.max(1, Arrays.stream(pan.makes).sum() / 12);
            long[] best = null;
            for (int t = 0; t < ground.towns.size(); t++) {
                Town town = ground.towns.get(t);
                int days = ground.days(pan.place, town.place);
                if (days >= 0 && pan.serves.contains(town.district)) {
                    long months = (long) Math.ceil(days / 30.0) + waiting(p) / a;
                    long w = price(t) - tax - days * haul / 10 - patience * months;
                    if (best == null || w > best[0]) {
                        best = new long[] {w, t};
                    }
                }
            }
            return best;
        }

        int later(int days) {
            return month + Math.max(1, (int) Math.ceil(days / 30.0));
        }

        void give(int holder, int pan, int sacks, int days, boolean bought) {
            if (sacks <= 0) {
                return;
            }
            Paper p = new Paper();
            p.holder = holder;
            p.pan = pan;
            p.sacks = sacks;
            p.given = month;
            p.days = days;
            p.bought = bought;
            p.gone = forged.getOrDefault(papers.size(), 9999) <= month;
            papers.add(p);
        }

        void play(List<Fact> known) {
            for (int i = 0; i < papers.size(); i++) {
                if (waits(papers.get(i)) && forged.getOrDefault(i, 9999) <= month) {
                    papers.get(i).gone = true;
                }
            }
            for (int m = 0; m < count; m++) {
                if (deadFrom[m] == month) {
                    die(m);
                }
            }
            for (int i = 0; i < salt.length; i++) {
                long made = ground.pans.get(i).makes[month % 12];
                for (Fact f : known) {
                    if (f.kind == 'w' && f.subject == i && f.month == month) {
                        made = Math.min(999999, made * f.value / 100);
                    }
                }
                salt[i] += (int) made;
            }
            tell();
            for (Load l : new ArrayList<>(loads)) {
                if (l.month == month) {
                    come(l);
                    loads.remove(l);
                }
            }
            draw();
            for (int i = 0; i < store.length; i++) {
                int eats = ground.forts.get(i).eats;
                int lack = Math.max(0, eats - store[i]);
                store[i] -= eats - lack;
                starved += lack;
                keep("fort", i, 1, lack);
            }
            for (int i = 0; i < stock.length; i++) {
                stock[i] = Math.max(0, stock[i] - ground.towns.get(i).wants);
                keep("town", i, 2, 0);
            }
            for (int m = 0; m < count; m++) {
                keep("book", m, 1, -1);
                keep("book", m, 2, 0);
                if (!dead(m)) {
                    act(m);
                }
                keep("book", m, 0, coins[m]);
            }
            smuggle();
            for (int i = 0; i < store.length; i++) {
                keep("fort", i, 0, store[i]);
            }
            for (int i = 0; i < salt.length; i++) {
                keep("pan", i, 0, salt[i]);
                keep("pan", i, 1, waiting(i));
            }
            for (int i = 0; i < stock.length; i++) {
                keep("town", i, 0, stock[i]);
                keep("town", i, 1, price(i));
            }
        }

        void keep(String sort, int number, int what, long value) {
            records.put(sort + " " + number + " " + month + " " + what, value);
        }

        void die(int m) {
            int to = heir[m] >= 0 && !dead(heir[m]) ? heir[m] : -1;
            if (to >= 0) {
                coins[to] += coins[m];
            } else {
                state += coins[m];
            }
            coins[m] = 0;
            for (Paper p : papers) {
                if (waits(p) && p.holder == m) {
                    p.holder = to;
                    p.gone = to < 0;
                }
            }
            for (Load l : loads) {
                if (l.owner == m) {
                    l.owner = to;
                }
            }
            for (int f = 0; f < 3; f++) {
                farms.remove(m + " " + f);
            }
        }

        void come(Load l) {
            if (l.grain) {
                store[l.goal] += l.amount;
                if (l.owner >= 0) {
                    give(l.owner, l.pan, l.promised, l.days, false);
                }
                return;
            }
            long gets = (long) l.amount * Math.max(0, price(l.goal) - tax);
            if (l.owner >= 0) {
                coins[l.owner] += gets;
            } else {
                state += gets;
            }
            state += (long) l.amount * tax;
            sold += l.amount;
            stock[l.goal] += l.amount;
        }

        void draw() {
            Map<String, Integer> env = env();
            for (Paper p : papers) {
                if (waits(p)) {
                    env.put("age", month - p.given);
                    env.put("sacks", p.sacks);
                    env.put("bought", p.bought ? 1 : 0);
                    env.put("days", p.days);
                    p.rank = 0;
                    while (p.rank < reform.classes.size() && reform.classes.get(p.rank).of(env) == 0) {
                        p.rank++;
                    }
                }
            }
            for (int i = 0; i < salt.length; i++) {
                int pan = i;
                List<Paper> queue = new ArrayList<>();
                papers.stream().filter(p -> waits(p) && p.pan == pan).forEach(queue::add);
                queue.sort((p, q) -> Integer.compare(p.rank, q.rank));
                long[] worth = worth(i);
                for (Paper p : queue) {
                    if (p.sacks > salt[i]) {
                        break;
                    }
                    salt[i] -= p.sacks;
                    p.drew = month;
                    drawn++;
                    waited += month - p.given;
                    if (worth == null) {
                        lost += p.sacks;
                        continue;
                    }
                    Load l = new Load();
                    l.owner = p.holder;
                    l.goal = (int) worth[1];
                    l.amount = p.sacks;
                    int days = ground.days(ground.pans.get(i).place, ground.towns.get(l.goal).place);
                    l.month = later(days);
                    coins[p.holder] = Math.max(0, coins[p.holder] - (long) p.sacks * (days * haul / 10));
                    loads.add(l);
                }
            }
        }

        int rate(int f, int days) {
            Map<String, Integer> env = env();
            int eats = ground.forts.get(f).eats;
            env.put("store", store[f]);
            env.put("need", eats == 0 ? 9999 : store[f] / eats);
            env.put("days", days);
            return reform.tell("rate", env);
        }

        Choice choose(int m) {
            Choice best = new Choice();
            int pan = -1;
            long w = 0;
            for (int i = 0; i < salt.length; i++) {
                long[] found = worth(i);
                if (found != null && (pan < 0 || found[0] > w)) {
                    pan = i;
                    w = found[0];
                }
            }
            if (pan < 0) {
                return best;
            }
            List<Choice> all = new ArrayList<>();
            for (int f = 0; f < store.length; f++) {
                for (int g = 0; g < stock.length; g++) {
                    int days = ground.days(ground.towns.get(g).place, ground.forts.get(f).place);
                    if (days >= 0) {
                        long each = 10 * ground.towns.get(g).cost + days * haul;
                        all.add(choice(1, f, g, Math.min(grain[g] / 10, can(m, each)), rate(f, days), each, w));
                    }
                }
            }
            for (int f = 0; f < store.length; f++) {
                if (farms.containsKey(m + " " + f) && month - farms.get(m + " " + f) >= 12) {
                    all.add(choice(2, f, -1, can(m, farming), rate(f, 0), farming, w));
                }
            }
            for (int f = 0; f < store.length; f++) {
                if (!farms.containsKey(m + " " + f) && coins[m] >= founding) {
                    Choice c = choice(3, f, -1, 1, rate(f, 0), farming, w);
                    c.gain = (24 * c.gain - founding) / 24;
                    all.add(c);
                }
            }
            if (coin > 0) {
                all.add(choice(4, -1, -1, Math.min(most / 10, can(m, 10L * coin)), 10, 10L * coin, w));
            }
            for (Choice c : all) {
                c.pan = pan;
                if (c.n > 0 && c.gain > best.gain) {
                    best = c;
                }
            }
            return best;
        }

        long can(int m, long each) {
            return each == 0 ? load : Math.min(load, coins[m] / each);
        }

        Choice choice(int number, int f, int g, long n, int rate, long each, long worth) {
            Choice c = new Choice();
            c.number = number;
            c.fort = f;
            c.town = g;
            c.n = (int) n;
            c.rate = rate;
            c.gain = n * (rate * worth - each);
            return c;
        }

        void act(int m) {
            Choice c = choose(m);
            keep("book", m, 1, c.number);
            keep("book", m, 2, c.gain);
            if (c.number == 1) {
                int days = ground.days(ground.towns.get(c.town).place, ground.forts.get(c.fort).place);
                coins[m] -= c.n * (10L * ground.towns.get(c.town).cost + days * haul);
                grain[c.town] -= 10 * c.n;
                Load l = new Load();
                l.grain = true;
                l.owner = m;
                l.goal = c.fort;
                l.amount = 10 * c.n;
                l.promised = c.n * c.rate;
                l.pan = c.pan;
                l.days = days;
                l.month = later(days);
                loads.add(l);
            } else if (c.number == 2) {
                coins[m] -= (long) c.n * farming;
                store[c.fort] += 10 * c.n;
                give(m, c.pan, c.n * c.rate, 0, false);
            } else if (c.number == 3) {
                coins[m] -= founding;
                farms.put(m + " " + c.fort, month);
            } else if (c.number == 4) {
                coins[m] -= 10L * c.n * coin;
                state += 10L * c.n * coin;
                most -= 10 * c.n;
                give(m, c.pan, 10 * c.n, 0, true);
            }
        }

        void smuggle() {
            for (int i = 0; i < stock.length; i++) {
                for (int j = i + 1; j < stock.length; j++) {
                    int a = price(i) <= price(j) ? i : j;
                    int b = i + j - a;
                    int days = ground.days(ground.towns.get(a).place, ground.towns.get(b).place);
                    boolean unlike = ground.towns.get(a).district != ground.towns.get(b).district;
                    if (unlike && days >= 0 && price(b) - price(a) > days) {
                        int goes = Math.min(stock[a] / 10, ground.towns.get(b).wants);
                        int stopped = goes * guard / 100;
                        stock[a] -= goes;
                        stock[b] += goes - stopped;
                        smuggled += goes - stopped;
                        caught += stopped;
                        keep("town", b, 2, records.get("town " + b + " " + month + " 2") + goes - stopped);
                    }
                }
            }
        }
    }
}
