import java.util.Arrays;

/** An office that gives salt for grain. The document tells what the terms, in capitals here too, mean. */
public final class SaltOffice {
    public static final int NONE = -1;

    private static final int TAPE_BYTES = 1600;
    private static final int FEED_BYTES = 20;
    // As many as bytes, and the end.
    private static final int TOKENS = TAPE_BYTES + 1;
    private static final int REFORM_BYTES = 700;
    private static final int SHELVES = 4;
    private static final int PLACES = 16;
    private static final int ROADS = 24;
    private static final int FORTS = 3;
    private static final int PANS = 3;
    private static final int TOWNS = 5;
    private static final int DISTRICTS = 5;
    private static final int NAMES = FORTS + PANS + TOWNS;
    private static final int MERCHANTS = 6;
    private static final int FACTS = 40;
    private static final int MONTHS = 240;
    private static final int YEAR = 12;
    private static final int LAST_TIME = 100000;
    private static final int FORGEABLE = 2000;
    // A MERCHANT takes one WAY a MONTH, and no WAY brings more than one PAPER.
    private static final int PAPERS = MERCHANTS * MONTHS;
    // Each PAPER was grain on its way once at most, and is salt on its way once at most.
    private static final int LOADS = 2 * PAPERS;
    // Behind every MONTH that a FACT can name.
    private static final int NEVER = 1000000;
    private static final long NO_WORTH = -1000000000000L;

    private static final int NO_TOKEN = 1;
    private static final int MISPLACED = 2;
    private static final int TOLD_ALREADY = 3;
    private static final int CANNOT_BE = 4;
    private static final int NOT_TO_ASK = 5;
    private static final int UNREAD = -2;

    private static final int KIND_END = 0;
    private static final int KIND_WORD = 1;
    private static final int KIND_NUMBER = 2;
    private static final int KIND_PLACE = 3;
    private static final int KIND_SIGN = 4;
    private static final int KIND_WRONG = 5;

    private static final int BLANK = 32;
    private static final int LINE_FEED = 10;
    private static final int WORD_LETTERS = 8;
    private static final int NUMBER_DIGITS = 4;
    private static final String SIGNS = ";()<>=+-*/";
    // The numbers of the words below are their places in this text.
    private static final String KEYWORDS = "road fort at eats store pan makes serves town of wants price grain cost rate class coin most tax guard and or not year month need days waiting age sacks bought made ";
    private static final int WORD_ROAD = 0;
    private static final int WORD_FORT = 1;
    private static final int WORD_AT = 2;
    private static final int WORD_EATS = 3;
    private static final int WORD_STORE = 4;
    private static final int WORD_PAN = 5;
    private static final int WORD_MAKES = 6;
    private static final int WORD_SERVES = 7;
    private static final int WORD_TOWN = 8;
    private static final int WORD_OF = 9;
    private static final int WORD_WANTS = 10;
    private static final int WORD_PRICE = 11;
    private static final int WORD_GRAIN = 12;
    private static final int WORD_COST = 13;
    private static final int WORD_RATE = 14;
    private static final int WORD_CLASS = 15;
    private static final int WORD_GUARD = 19;
    private static final int WORD_AND = 20;
    private static final int WORD_OR = 21;
    private static final int WORD_NOT = 22;
    private static final int WORD_YEAR = 23;
    private static final int WORD_MONTH = 24;
    private static final int WORD_NEED = 25;
    private static final int WORD_DAYS = 26;
    private static final int WORD_WAITING = 27;
    private static final int WORD_AGE = 28;
    private static final int WORD_SACKS = 29;
    private static final int WORD_BOUGHT = 30;
    private static final int WORD_MADE = 31;
    private static final int WORDS = 32;

    // A SLOT is where a REFORM keeps a line; those of one line each lie as their words do.
    private static final int SLOT_RATE = 0;
    private static final int SLOT_COIN = 2;
    private static final int SLOT_MOST = 3;
    private static final int SLOT_TAX = 4;
    private static final int SLOT_GUARD = 5;
    private static final int SLOT_CLASSES = 6;
    private static final int CLASSES = 5;
    private static final int SLOTS = SLOT_CLASSES + CLASSES;
    private static final int UNITS = 100;
    private static final int NESTED = 6;
    // Cells of a REFORM's code: words below WORDS, signs as their bytes, numbers from here on.
    private static final int CELL_NUMBER = 64;
    private static final int HIGHEST = 9999;
    private static final int HUNDRED = 100;

    private static final int FACT_WEATHER = 0;
    private static final int FACT_FORGED = 1;
    private static final int FACT_DEAD = 2;
    private static final int MOST_WEATHERED = 999999;

    private static final int CARGO_GRAIN = 0;
    private static final int CARGO_SALT = 1;

    private static final int WAY_STAY = 0;
    private static final int WAY_CARRY = 1;
    private static final int WAY_FARM = 2;
    private static final int WAY_FOUND = 3;
    private static final int WAY_BUY = 4;
    private static final int FARM_RIPE = 12;
    private static final int FARM_TIMES = 24;

    // What ran(..) asks for.
    private static final int RAN_STARVED = 0;
    private static final int RAN_SOLD = 1;
    private static final int RAN_STATE = 2;
    private static final int RAN_SMUGGLED = 3;
    private static final int RAN_CAUGHT = 4;
    private static final int RAN_LOST = 5;
    private static final int RAN_WAIT = 6;
    private static final int RAN_WAIT_SACKS = 7;
    private static final int RAN_WAITED = 8;
    private static final int RAN_DRAWN = 9;
    private static final int RAN_MONTHS = 10;
    private static final int RAN_ALL = 11;

    private final Tape tape = new Tape();
    private Land land = new Land();
    private Land spareLand = new Land();
    private final Reform[] shelves = new Reform[SHELVES];
    private Reform spareReform = new Reform();
    private final Trade trade = new Trade();
    private final Facts facts = new Facts();
    private int time = 0;
    private final Run last = new Run();
    private final Run trial = new Run();

    public SaltOffice() {
        for (int i = 0; i < SHELVES; i++) {
            shelves[i] = new Reform();
        }
    }

    public int feed(int a, int b, int c, int d, int e) {
        if (tape.length + FEED_BYTES > TAPE_BYTES) {
            return NONE;
        }
        tape.append(a);
        tape.append(b);
        tape.append(c);
        tape.append(d);
        tape.append(e);
        return tape.length;
    }

    public int end(int n) {
        if (n < 0 || n > tape.length) {
            return NONE;
        }
        tape.length = n;
        return n;
    }

    public int land() {
        boolean good = spareLand.read(tape);
        tape.length = 0;
        if (!good) {
            return NONE;
        }
        Land old = land;
        land = spareLand;
        spareLand = old;
        facts.count = 0;
        last.ready = false;
        return land.roads + land.forts + land.pans + land.towns;
    }

    public int reform(int shelf) {
        if (shelf < 0 || shelf >= SHELVES || tape.length > REFORM_BYTES) {
            return UNREAD;
        }
        boolean good = spareReform.read(tape);
        tape.length = 0;
        if (!good) {
            return NONE;
        }
        int lines = spareReform.lines;
        Reform old = shelves[shelf];
        shelves[shelf] = spareReform;
        spareReform = old;
        return lines;
    }

    public int fault(int what) {
        if (what == 0) {
            return tape.fault;
        }
        return what == 1 ? tape.faultPlace : NONE;
    }

    public int days(int a, int b) {
        return land.daysBetween(a, b);
    }

    public int merchant(int coins) {
        if (coins < 0 || coins > 30000 || trade.merchants >= MERCHANTS) {
            return NONE;
        }
        last.ready = false;
        trade.coins[trade.merchants] = coins;
        trade.merchants++;
        return trade.merchants - 1;
    }

    public boolean costs(int haul, int load, int patience, int found, int month) {
        boolean carrying = within(haul, 0, 99) && within(load, 1, 50) && within(patience, 0, 99);
        if (!carrying || !within(found, 0, 9999) || !within(month, 0, 999)) {
            return false;
        }
        trade.haul = haul;
        trade.load = load;
        trade.patience = patience;
        trade.founding = found;
        trade.farming = month;
        last.ready = false;
        return true;
    }

    public int weather(int pan, int month, int percent) {
        if (pan < 0 || pan >= land.pans || !within(percent, 0, 300)) {
            return NONE;
        }
        return tellFact(FACT_WEATHER, pan, month, percent);
    }

    public int forged(int paper, int month) {
        if (paper < 0 || paper >= FORGEABLE) {
            return NONE;
        }
        return tellFact(FACT_FORGED, paper, month, 0);
    }

    public int dead(int merchant, int month, int heir) {
        if (merchant < 0 || merchant >= trade.merchants || merchant == heir) {
            return NONE;
        }
        if (heir != NONE && (heir < 0 || heir >= trade.merchants)) {
            return NONE;
        }
        return tellFact(FACT_DEAD, merchant, month, heir);
    }

    private int tellFact(int kind, int subject, int month, int value) {
        if (month < 0 || month >= MONTHS) {
            return NONE;
        }
        return facts.add(kind, subject, month, value, time);
    }

    public boolean untell(int fact) {
        if (fact < 0 || fact >= facts.count || facts.untold[fact] != NONE) {
            return false;
        }
        facts.untold[fact] = time;
        return true;
    }

    public int later(int by) {
        if (by < 0 || by > 1000 || time + by > LAST_TIME) {
            return NONE;
        }
        time += by;
        return time;
    }

    public int run(int shelf, int n, int k) {
        Reform reform = shelfAt(shelf);
        if (reform == null || n < 0 || n > MONTHS) {
            return NONE;
        }
        last.play(land, trade, reform, facts, n, k);
        return last.papers.count;
    }

    public long ran(int what) {
        if (!last.ready || what < 0 || what >= RAN_ALL) {
            return NONE;
        }
        return last.totals[what];
    }

    public int fort(int fort, int m, int what) {
        if (!ranMonth(m) || fort < 0 || fort >= land.forts || !within(what, 0, 1)) {
            return NONE;
        }
        return last.records.forts[(m * FORTS + fort) * 2 + what];
    }

    public int pan(int pan, int m, int what) {
        if (!ranMonth(m) || pan < 0 || pan >= land.pans || !within(what, 0, 1)) {
            return NONE;
        }
        return last.records.pans[(m * PANS + pan) * 2 + what];
    }

    public int town(int town, int m, int what) {
        if (!ranMonth(m) || town < 0 || town >= land.towns || !within(what, 0, 2)) {
            return NONE;
        }
        return last.records.towns[(m * TOWNS + town) * 3 + what];
    }

    public long book(int merchant, int m, int what) {
        if (!ranMonth(m) || merchant < 0 || merchant >= trade.merchants || !within(what, 0, 2)) {
            return NONE;
        }
        return last.records.books[(m * MERCHANTS + merchant) * 3 + what];
    }

    public int paper(int paper, int what) {
        if (!last.ready || paper < 0 || paper >= last.papers.count) {
            return NONE;
        }
        return last.papers.detail(paper, what);
    }

    public long way(int merchant, int what) {
        if (!last.ready || merchant < 0 || merchant >= trade.merchants || last.isDead(merchant)) {
            return NONE;
        }
        Way way = last.way;
        way.choose(last, merchant);
        switch (what) {
            case 0: return way.number;
            case 1: return way.fort;
            case 2: return way.town;
            case 3: return way.n;
            case 4: return way.gain;
            default: return NONE;
        }
    }

    public long worth(int pan) {
        if (!last.ready || pan < 0 || pan >= land.pans) {
            return NO_WORTH;
        }
        last.townFor(pan);
        return last.worthFound;
    }

    public int judge(int a, int b, int n, int k) {
        Reform first = shelfAt(a);
        Reform second = shelfAt(b);
        if (first == null || second == null || n < 0 || n > MONTHS) {
            return NONE;
        }
        trial.play(land, trade, first, facts, n, k);
        long starved = trial.totals[RAN_STARVED];
        long waited = trial.totals[RAN_WAITED];
        long drawn = trial.totals[RAN_DRAWN];
        long state = trial.totals[RAN_STATE];
        trial.play(land, trade, second, facts, n, k);
        int order = Long.compare(starved, trial.totals[RAN_STARVED]);
        if (order == 0) {
            order = compareWaits(waited, drawn, trial.totals[RAN_WAITED], trial.totals[RAN_DRAWN]);
        }
        if (order == 0) {
            order = Long.compare(trial.totals[RAN_STATE], state);
        }
        if (order == 0) {
            return 2;
        }
        return order < 0 ? 0 : 1;
    }

    public int about(int what) {
        switch (what) {
            case 0: return land.forts;
            case 1: return land.pans;
            case 2: return land.towns;
            case 3: return land.roads;
            case 4: return trade.merchants;
            case 5: return facts.count;
            case 6: return time;
            case 7: return tape.length;
            default: break;
        }
        Reform reform = what < 10 ? null : shelfAt(what - 10);
        return reform == null ? NONE : reform.lines;
    }

    private Reform shelfAt(int shelf) {
        return shelf < 0 || shelf >= SHELVES ? null : shelves[shelf];
    }

    private boolean ranMonth(int m) {
        return last.ready && m >= 0 && m < last.months;
    }

    private static int monthsOfWay(int days) {
        return (days + 29) / 30;
    }

    private static boolean within(int number, int least, int most) {
        return number >= least && number <= most;
    }

    /** Below 0: the first waited less for each drawn PAPER; where none is drawn, that is more than any. */
    private static int compareWaits(long waited, long drawn, long otherWaited, long otherDrawn) {
        if (drawn == 0 || otherDrawn == 0) {
            return Long.compare(otherDrawn == 0 ? 0 : 1, drawn == 0 ? 0 : 1);
        }
        return Long.compare(waited * otherDrawn, otherWaited * drawn);
    }

    /** The bytes that were fed, and the TOKENS in them; behind its first FAULT a reading goes no further. */
    private static final class Tape {
        final int[] bytes = new int[TAPE_BYTES];
        final long[] keywords = new long[WORDS];
        final int[] kinds = new int[TOKENS];
        final int[] places = new int[TOKENS];
        final int[] values = new int[TOKENS];
        final long[] names = new long[TOKENS];
        int length = 0;
        int fault = 0;
        int faultPlace = NONE;
        boolean knowsPlaces = false;
        int now = 0;

        Tape() {
            int word = 0;
            long letters = 0;
            for (int i = 0; i < KEYWORDS.length(); i++) {
                if (isLetter(KEYWORDS.charAt(i))) {
                    letters = withLetter(letters, KEYWORDS.charAt(i));
                } else if (word < WORDS) {
                    keywords[word] = letters;
                    word++;
                    letters = 0;
                }
            }
        }

        void append(int number) {
            for (int shift = 24; shift >= 0 && length < TAPE_BYTES; shift -= 8) {
                bytes[length] = (number >>> shift) & 255;
                length++;
            }
        }

        void startReading(boolean placesToo) {
            knowsPlaces = placesToo;
            fault = 0;
            faultPlace = NONE;
            int behind = 0;
            boolean goesOn = true;
            for (int token = 0; token < TOKENS && goesOn; token++) {
                behind = cutToken(token, behind);
                goesOn = kinds[token] != KIND_END && kinds[token] != KIND_WRONG;
            }
            now = 0;
        }

        /** Answers the place behind the TOKEN. */
        private int cutToken(int token, int from) {
            int i = from;
            while (i < length && (byteAt(i) == BLANK || byteAt(i) == LINE_FEED)) {
                i++;
            }
            places[token] = i;
            values[token] = NONE;
            if (i >= length) {
                kinds[token] = KIND_END;
                return i;
            }
            if (isLetter(byteAt(i))) {
                return knowsPlaces && placeAt(i) != NONE ? cutPlace(token, i) : cutWord(token, i);
            }
            if (isDigit(byteAt(i))) {
                return cutNumber(token, i);
            }
            kinds[token] = SIGNS.indexOf((char) byteAt(i)) < 0 ? KIND_WRONG : KIND_SIGN;
            values[token] = byteAt(i);
            return i + 1;
        }

        private int cutPlace(int token, int from) {
            kinds[token] = KIND_PLACE;
            values[token] = placeAt(from);
            return isDigit(byteAt(from + 2)) ? from + 3 : from + 2;
        }

        /** The number of a P that begins at i, or NONE if none does. */
        private int placeAt(int i) {
            if (byteAt(i) != 'p' || !isDigit(byteAt(i + 1))) {
                return NONE;
            }
            int place = byteAt(i + 1) - '0';
            int behind = i + 2;
            if (isDigit(byteAt(behind))) {
                place = place * 10 + byteAt(behind) - '0';
                behind++;
            }
            boolean goesOn = isDigit(byteAt(behind)) || isLetter(byteAt(behind));
            return goesOn || place >= PLACES ? NONE : place;
        }

        /** All letters that stand together are one word, or, if they are too many, no TOKEN. */
        private int cutWord(int token, int from) {
            int i = from;
            long letters = 0;
            while (i < length && isLetter(byteAt(i))) {
                letters = withLetter(letters, byteAt(i));
                i++;
            }
            kinds[token] = i - from > WORD_LETTERS ? KIND_WRONG : KIND_WORD;
            names[token] = letters;
            for (int word = 0; word < WORDS; word++) {
                if (keywords[word] == letters) {
                    values[token] = word;
                }
            }
            return i;
        }

        /** All digits that stand together are one number, or, if they are too many or a letter follows, no TOKEN. */
        private int cutNumber(int token, int from) {
            int i = from;
            int number = 0;
            while (i < length && isDigit(byteAt(i))) {
                number = number * 10 + byteAt(i) - '0';
                i++;
            }
            kinds[token] = i - from > NUMBER_DIGITS || isLetter(byteAt(i)) ? KIND_WRONG : KIND_NUMBER;
            values[token] = number;
            return i;
        }

        private int byteAt(int i) {
            return i < 0 || i >= length || i >= TAPE_BYTES ? 0 : bytes[i];
        }

        private static boolean isLetter(int sign) {
            return sign >= 'a' && sign <= 'z';
        }

        private static boolean isDigit(int sign) {
            return sign >= '0' && sign <= '9';
        }

        /** Eight letters of five bits each tell a word from every other. */
        private static long withLetter(long letters, int letter) {
            return letters * 32 + letter - 'a' + 1;
        }

        int kind() {
            return kinds[now];
        }

        int value() {
            return values[now];
        }

        long name() {
            return names[now];
        }

        void step() {
            if (kinds[now] != KIND_END && kinds[now] != KIND_WRONG && now < TOKENS - 1) {
                now++;
            }
        }

        /** Of FAULTS at one place the least counts, and what is no TOKEN is less than all others. */
        void refuse(int what) {
            if (fault == 0) {
                fault = kinds[now] == KIND_WRONG ? NO_TOKEN : what;
                faultPlace = places[now];
            }
        }

        boolean isWord(int word) {
            return fault == 0 && kinds[now] == KIND_WORD && values[now] == word;
        }

        boolean isSign(int sign) {
            return fault == 0 && kinds[now] == KIND_SIGN && values[now] == sign;
        }

        boolean isNumber() {
            return fault == 0 && kinds[now] == KIND_NUMBER;
        }

        boolean atEnd() {
            return kinds[now] == KIND_END;
        }

        void passIf(boolean fits) {
            if (fits) {
                step();
            } else {
                refuse(MISPLACED);
            }
        }

        boolean closeLine() {
            passIf(isSign(';'));
            return fault == 0;
        }

        int takeNumber(int least, int most) {
            int number = values[now];
            if (!isNumber()) {
                refuse(MISPLACED);
            } else if (number < least || number > most) {
                refuse(CANNOT_BE);
            } else {
                step();
                return number;
            }
            return NONE;
        }

        int takeNumberBehind(int word, int least, int most) {
            passIf(isWord(word));
            return takeNumber(least, most);
        }

        int takePlaceUnlike(int other) {
            int place = values[now];
            if (fault != 0 || kinds[now] != KIND_PLACE) {
                refuse(MISPLACED);
            } else if (place == other) {
                refuse(CANNOT_BE);
            } else {
                step();
                return place;
            }
            return NONE;
        }
    }

    /** A LAND as it was read. */
    private static final class Land {
        int roads = 0;
        int forts = 0;
        int pans = 0;
        int towns = 0;
        int names = 0;
        final long[] told = new long[NAMES];
        final int[] distances = new int[PLACES * PLACES];
        final int[] fortPlace = new int[FORTS];
        final int[] fortEats = new int[FORTS];
        final int[] fortStore = new int[FORTS];
        final int[] panPlace = new int[PANS];
        final int[] panMakes = new int[PANS * YEAR];
        final int[] panServes = new int[PANS * DISTRICTS];
        final int[] panUsual = new int[PANS];
        final int[] townPlace = new int[TOWNS];
        final int[] townDistrict = new int[TOWNS];
        final int[] townWants = new int[TOWNS];
        final int[] townPrice = new int[TOWNS];
        final int[] townGrain = new int[TOWNS];
        final int[] townCost = new int[TOWNS];

        Land() {
            clear();
        }

        private void clear() {
            roads = 0;
            forts = 0;
            pans = 0;
            towns = 0;
            names = 0;
            Arrays.fill(panServes, 0);
            Arrays.fill(distances, NONE);
            for (int i = 0; i < PLACES; i++) {
                distances[i * PLACES + i] = 0;
            }
        }

        boolean read(Tape tape) {
            clear();
            tape.startReading(true);
            for (int i = 0; i < TAPE_BYTES && !tape.atEnd(); i++) {
                if (!readLine(tape)) {
                    return false;
                }
            }
            shortenWays();
            return true;
        }

        private boolean readLine(Tape tape) {
            if (tape.isWord(WORD_ROAD) && roads < ROADS) {
                return readRoad(tape);
            }
            if (tape.isWord(WORD_FORT) && forts < FORTS) {
                return readFort(tape);
            }
            if (tape.isWord(WORD_PAN) && pans < PANS) {
                return readPan(tape);
            }
            if (tape.isWord(WORD_TOWN) && towns < TOWNS) {
                return readTown(tape);
            }
            tape.refuse(MISPLACED);
            return false;
        }

        private boolean readRoad(Tape tape) {
            tape.step();
            int a = tape.takePlaceUnlike(NONE);
            int b = tape.takePlaceUnlike(a);
            int length = tape.takeNumber(1, 90);
            if (!tape.closeLine()) {
                return false;
            }
            shorten(a, b, length);
            shorten(b, a, length);
            roads++;
            return true;
        }

        private boolean readFort(Tape tape) {
            tape.step();
            readName(tape);
            fortPlace[forts] = readSite(tape);
            fortEats[forts] = tape.takeNumberBehind(WORD_EATS, 0, 999);
            fortStore[forts] = tape.takeNumberBehind(WORD_STORE, 0, 9999);
            if (!tape.closeLine()) {
                return false;
            }
            forts++;
            return true;
        }

        private boolean readPan(Tape tape) {
            tape.step();
            readName(tape);
            panPlace[pans] = readSite(tape);
            tape.passIf(tape.isWord(WORD_MAKES));
            int year = 0;
            for (int i = 0; i < YEAR; i++) {
                panMakes[pans * YEAR + i] = tape.takeNumber(0, 999);
                year += panMakes[pans * YEAR + i];
            }
            panUsual[pans] = Math.max(1, year / YEAR);
            tape.passIf(tape.isWord(WORD_SERVES));
            readDistrict(tape);
            for (int i = 0; i < DISTRICTS && tape.isNumber(); i++) {
                readDistrict(tape);
            }
            if (!tape.closeLine()) {
                return false;
            }
            pans++;
            return true;
        }

        private void readDistrict(Tape tape) {
            if (tape.isNumber() && serves(pans, tape.value())) {
                tape.refuse(CANNOT_BE);
            }
            int district = tape.takeNumber(0, DISTRICTS - 1);
            if (district != NONE) {
                panServes[pans * DISTRICTS + district] = 1;
            }
        }

        private boolean readTown(Tape tape) {
            tape.step();
            readName(tape);
            townPlace[towns] = readSite(tape);
            townDistrict[towns] = tape.takeNumberBehind(WORD_OF, 0, DISTRICTS - 1);
            townWants[towns] = tape.takeNumberBehind(WORD_WANTS, 0, 999);
            townPrice[towns] = tape.takeNumberBehind(WORD_PRICE, 1, 999);
            townGrain[towns] = tape.takeNumberBehind(WORD_GRAIN, 0, 999);
            townCost[towns] = tape.takeNumberBehind(WORD_COST, 1, 99);
            if (!tape.closeLine()) {
                return false;
            }
            towns++;
            return true;
        }

        private void readName(Tape tape) {
            if (tape.kind() != KIND_WORD || tape.value() != NONE || names >= NAMES) {
                tape.refuse(MISPLACED);
                return;
            }
            for (int i = 0; i < names; i++) {
                if (told[i] == tape.name()) {
                    tape.refuse(TOLD_ALREADY);
                    return;
                }
            }
            told[names] = tape.name();
            names++;
            tape.step();
        }

        private int readSite(Tape tape) {
            tape.passIf(tape.isWord(WORD_AT));
            return tape.takePlaceUnlike(NONE);
        }

        private void shortenWays() {
            for (int over = 0; over < PLACES; over++) {
                for (int a = 0; a < PLACES; a++) {
                    int there = daysBetween(a, over);
                    for (int b = 0; b < PLACES && there != NONE; b++) {
                        int onward = daysBetween(over, b);
                        if (onward != NONE) {
                            shorten(a, b, there + onward);
                        }
                    }
                }
            }
        }

        private void shorten(int a, int b, int length) {
            int known = daysBetween(a, b);
            if (known == NONE || known > length) {
                distances[a * PLACES + b] = length;
            }
        }

        int daysBetween(int a, int b) {
            if (a < 0 || a >= PLACES || b < 0 || b >= PLACES) {
                return NONE;
            }
            return distances[a * PLACES + b];
        }

        boolean serves(int pan, int district) {
            return district >= 0 && district < DISTRICTS && panServes[pan * DISTRICTS + district] != 0;
        }
    }

    /** A REFORM as it was read: its lines as code that puts units on a stack and joins them there. */
    private static final class Reform {
        final int[] code = new int[REFORM_BYTES];
        final int[] from = new int[SLOTS];
        final int[] to = new int[SLOTS];
        final int[] stack = new int[UNITS];
        int length = 0;
        int lines = 0;
        int classes = 0;
        int units = 0;
        int slot = NONE;

        private void clear() {
            Arrays.fill(from, 0);
            Arrays.fill(to, 0);
            length = 0;
            lines = 0;
            classes = 0;
            units = 0;
        }

        void copyFrom(Reform other) {
            System.arraycopy(other.code, 0, code, 0, other.length);
            System.arraycopy(other.from, 0, from, 0, SLOTS);
            System.arraycopy(other.to, 0, to, 0, SLOTS);
            length = other.length;
            lines = other.lines;
            classes = other.classes;
        }

        boolean read(Tape tape) {
            clear();
            tape.startReading(false);
            for (int i = 0; i < REFORM_BYTES && !tape.atEnd(); i++) {
                if (!readLine(tape)) {
                    return false;
                }
                lines++;
            }
            return true;
        }

        private boolean readLine(Tape tape) {
            slot = freeSlot(tape);
            if (slot == NONE) {
                tape.refuse(MISPLACED);
                return false;
            }
            tape.step();
            from[slot] = length;
            readEither(tape, 0);
            to[slot] = length;
            if (slot >= SLOT_CLASSES) {
                classes++;
            }
            return tape.closeLine();
        }

        private int freeSlot(Tape tape) {
            if (tape.kind() != KIND_WORD || tape.value() < WORD_RATE || tape.value() > WORD_GUARD) {
                return NONE;
            }
            if (tape.value() == WORD_CLASS) {
                return classes < CLASSES ? SLOT_CLASSES + classes : NONE;
            }
            int wanted = tape.value() - WORD_RATE;
            return to[wanted] == 0 ? wanted : NONE;
        }

        private void readEither(Tape tape, int depth) {
            readBoth(tape, depth);
            for (int i = 0; i < REFORM_BYTES && tape.isWord(WORD_OR); i++) {
                tape.step();
                readBoth(tape, depth);
                emit(WORD_OR);
            }
        }

        private void readBoth(Tape tape, int depth) {
            readOne(tape, depth);
            for (int i = 0; i < REFORM_BYTES && tape.isWord(WORD_AND); i++) {
                tape.step();
                readOne(tape, depth);
                emit(WORD_AND);
            }
        }

        private void readOne(Tape tape, int depth) {
            if (tape.isWord(WORD_NOT)) {
                if (depth > NESTED) {
                    tape.refuse(MISPLACED);
                    return;
                }
                tape.step();
                readOne(tape, depth + 1);
                emit(WORD_NOT);
                return;
            }
            readSum(tape, depth);
            if (tape.isSign('<') || tape.isSign('>') || tape.isSign('=')) {
                int sign = tape.value();
                tape.step();
                readSum(tape, depth);
                emit(sign);
            }
        }

        private void readSum(Tape tape, int depth) {
            readTerm(tape, depth);
            for (int i = 0; i < REFORM_BYTES && (tape.isSign('+') || tape.isSign('-')); i++) {
                int sign = tape.value();
                tape.step();
                readTerm(tape, depth);
                emit(sign);
            }
        }

        private void readTerm(Tape tape, int depth) {
            readUnit(tape, depth);
            for (int i = 0; i < REFORM_BYTES && (tape.isSign('*') || tape.isSign('/')); i++) {
                int sign = tape.value();
                tape.step();
                readUnit(tape, depth);
                emit(sign);
            }
        }

        private void readUnit(Tape tape, int depth) {
            boolean opens = tape.isSign('(');
            boolean asks = tape.kind() == KIND_WORD && isAsked(tape.value());
            if (units >= UNITS || !(opens || asks || tape.isNumber()) || opens && depth > NESTED) {
                tape.refuse(MISPLACED);
                return;
            }
            if (asks && !mayAsk(tape.value())) {
                tape.refuse(NOT_TO_ASK);
                return;
            }
            units++;
            if (opens) {
                tape.step();
                readEither(tape, depth + 1);
                tape.passIf(tape.isSign(')'));
                return;
            }
            emit(asks ? tape.value() : CELL_NUMBER + tape.value());
            tape.step();
        }

        private static boolean isAsked(int word) {
            return word == WORD_STORE || word >= WORD_YEAR;
        }

        private boolean mayAsk(int word) {
            switch (word) {
                case WORD_STORE:
                case WORD_NEED:
                    return slot == SLOT_RATE;
                case WORD_DAYS:
                    return slot == SLOT_RATE || slot >= SLOT_CLASSES;
                case WORD_AGE:
                case WORD_SACKS:
                case WORD_BOUGHT:
                    return slot >= SLOT_CLASSES;
                default:
                    return true;
            }
        }

        /** Each cell comes of a TOKEN, so there is room for all. */
        private void emit(int cell) {
            if (length < REFORM_BYTES) {
                code[length] = cell;
                length++;
            }
        }

        int tell(int line, int[] asked) {
            int top = 0;
            for (int i = from[line]; i < to[line]; i++) {
                int cell = code[i];
                if (cell == WORD_NOT && top > 0) {
                    stack[top - 1] = stack[top - 1] == 0 ? 1 : 0;
                } else if (isJoint(cell) && top > 1) {
                    top--;
                    stack[top - 1] = join(cell, stack[top - 1], stack[top]);
                } else if (top < UNITS) {
                    stack[top] = cell >= CELL_NUMBER ? cell - CELL_NUMBER : asked[cell];
                    top++;
                }
            }
            return top > 0 ? stack[0] : 0;
        }

        private static boolean isJoint(int cell) {
            return cell == WORD_AND || cell == WORD_OR || cell >= WORDS && cell < CELL_NUMBER;
        }

        private static int join(int cell, int a, int b) {
            switch (cell) {
                case '+': return a + b;
                case '-': return a - b;
                case '*': return a * b;
                case '/': return b == 0 ? 0 : a / b;
                case '<': return a < b ? 1 : 0;
                case '>': return a > b ? 1 : 0;
                case '=': return a == b ? 1 : 0;
                case WORD_AND: return a != 0 && b != 0 ? 1 : 0;
                case WORD_OR: return a != 0 || b != 0 ? 1 : 0;
                default: return 0;
            }
        }
    }

    /** MERCHANTS as they begin, and what their trade costs. */
    private static final class Trade {
        final int[] coins = new int[MERCHANTS];
        int merchants = 0;
        int haul = 1;
        int load = 5;
        int patience = 1;
        int founding = 500;
        int farming = 20;
    }

    private static final class Facts {
        final int[] kinds = new int[FACTS];
        final int[] subjects = new int[FACTS];
        final int[] months = new int[FACTS];
        final int[] values = new int[FACTS];
        final int[] told = new int[FACTS];
        final int[] untold = new int[FACTS];
        int count = 0;

        int add(int kind, int subject, int month, int value, int time) {
            if (count >= FACTS) {
                return NONE;
            }
            kinds[count] = kind;
            subjects[count] = subject;
            months[count] = month;
            values[count] = value;
            told[count] = time;
            untold[count] = NONE;
            count++;
            return count - 1;
        }

        boolean isKnown(int fact, int kind, int k) {
            return kinds[fact] == kind && told[fact] <= k && (untold[fact] == NONE || untold[fact] > k);
        }

        int saltByWeather(int salt, int pan, int month, int k) {
            int made = salt;
            for (int i = 0; i < count; i++) {
                if (subjects[i] == pan && months[i] == month && isKnown(i, FACT_WEATHER, k)) {
                    long weathered = (long) made * values[i] / HUNDRED;
                    made = (int) Math.min(MOST_WEATHERED, weathered);
                }
            }
            return made;
        }
    }

    /** The PAPERS of a RUN by their numbers, and the queue of those that wait. */
    private static final class Papers {
        final int[] holders = new int[PAPERS];
        final int[] pans = new int[PAPERS];
        final int[] sacks = new int[PAPERS];
        final int[] given = new int[PAPERS];
        final int[] days = new int[PAPERS];
        final int[] bought = new int[PAPERS];
        final int[] drew = new int[PAPERS];
        final int[] gone = new int[PAPERS];
        final int[] classes = new int[PAPERS];
        final int[] forgedFrom = new int[PAPERS];
        final int[] queue = new int[PAPERS];
        final int[] waitingAt = new int[PANS];
        int count = 0;
        int queued = 0;
        int waiting = 0;

        void start(Facts facts, int k) {
            count = 0;
            queued = 0;
            waiting = 0;
            Arrays.fill(waitingAt, 0);
            Arrays.fill(forgedFrom, NEVER);
            for (int i = 0; i < facts.count; i++) {
                int number = facts.subjects[i];
                if (facts.isKnown(i, FACT_FORGED, k) && number >= 0 && number < PAPERS) {
                    forgedFrom[number] = Math.min(forgedFrom[number], facts.months[i]);
                }
            }
        }

        void give(int holder, int pan, int forSacks, int month, int earnedBy, int forCoin) {
            if (count >= PAPERS) {
                return;
            }
            int number = count;
            count++;
            holders[number] = holder;
            pans[number] = pan;
            sacks[number] = forSacks;
            given[number] = month;
            days[number] = earnedBy;
            bought[number] = forCoin;
            drew[number] = NONE;
            gone[number] = forgedFrom[number] <= month ? 1 : 0;
            if (gone[number] == 0) {
                queue[queued] = number;
                queued++;
                waiting += forSacks;
                waitingAt[pan] += forSacks;
            }
        }

        boolean isWaiting(int number) {
            return gone[number] == 0 && drew[number] == NONE;
        }

        private void stopWaiting(int number) {
            waiting -= sacks[number];
            waitingAt[pans[number]] -= sacks[number];
        }

        void lose(int number) {
            if (isWaiting(number)) {
                stopWaiting(number);
                gone[number] = 1;
            }
        }

        void draw(int number, int month) {
            stopWaiting(number);
            drew[number] = month;
        }

        void loseForged(int month) {
            for (int i = 0; i < queued; i++) {
                if (forgedFrom[queue[i]] <= month) {
                    lose(queue[i]);
                }
            }
        }

        void leaveTo(int heir, int merchant) {
            for (int i = 0; i < queued; i++) {
                int number = queue[i];
                if (holders[number] == merchant && isWaiting(number)) {
                    holders[number] = heir;
                    if (heir == NONE) {
                        lose(number);
                    }
                }
            }
        }

        void closeQueue() {
            int kept = 0;
            for (int i = 0; i < queued; i++) {
                if (isWaiting(queue[i])) {
                    queue[kept] = queue[i];
                    kept++;
                }
            }
            queued = kept;
        }

        int detail(int number, int what) {
            switch (what) {
                case 0: return holders[number];
                case 1: return pans[number];
                case 2: return sacks[number];
                case 3: return given[number];
                case 4: return days[number];
                case 5: return bought[number];
                case 6: return drew[number];
                case 7: return gone[number];
                default: return NONE;
            }
        }
    }

    /** What set out in a RUN, as it was sent; an owner NONE is nobody. */
    private static final class Loads {
        final int[] cargo = new int[LOADS];
        final int[] owners = new int[LOADS];
        final int[] goals = new int[LOADS];
        final int[] comes = new int[LOADS];
        final int[] amounts = new int[LOADS];
        final int[] promised = new int[LOADS];
        final int[] pans = new int[LOADS];
        final int[] days = new int[LOADS];
        int first = 0;
        int count = 0;

        void start() {
            first = 0;
            count = 0;
        }

        void sendSalt(int owner, int town, int sacks, int month, int length) {
            if (count < LOADS) {
                promised[count] = 0;
                pans[count] = NONE;
                send(CARGO_SALT, owner, town, sacks, month, length);
            }
        }

        void sendGrain(int owner, Way way, int month, int length) {
            if (count < LOADS) {
                promised[count] = way.sacks;
                pans[count] = way.pan;
                send(CARGO_GRAIN, owner, way.fort, way.n * 10, month, length);
            }
        }

        private void send(int what, int owner, int goal, int amount, int month, int length) {
            cargo[count] = what;
            owners[count] = owner;
            goals[count] = goal;
            amounts[count] = amount;
            comes[count] = month + Math.max(1, monthsOfWay(length));
            days[count] = length;
            count++;
        }

        void leaveTo(int heir, int merchant) {
            for (int i = first; i < count; i++) {
                if (owners[i] == merchant) {
                    owners[i] = heir;
                }
            }
        }

        void forgetCome(int month) {
            while (first < count && comes[first] <= month) {
                first++;
            }
        }
    }

    /** What FORTS, PANS and TOWNS have in a RUN. */
    private static final class Realm {
        final int[] stores = new int[FORTS];
        final int[] lacked = new int[FORTS];
        final int[] salt = new int[PANS];
        final int[] stocks = new int[TOWNS];
        final int[] smuggled = new int[TOWNS];
        final int[] grainLeft = new int[TOWNS];

        void start(Land land) {
            System.arraycopy(land.fortStore, 0, stores, 0, FORTS);
            Arrays.fill(salt, 0);
            Arrays.fill(stocks, 0);
        }

        void refillGrain(Land land) {
            System.arraycopy(land.townGrain, 0, grainLeft, 0, TOWNS);
        }

        int allSalt(int pans) {
            int sum = 0;
            for (int i = 0; i < pans && i < PANS; i++) {
                sum += salt[i];
            }
            return sum;
        }

        int priceIn(Land land, int town) {
            int usual = land.townPrice[town];
            int wants = land.townWants[town];
            if (wants == 0) {
                return usual;
            }
            long price = (long) usual * (3L * wants - stocks[town]) / wants;
            return (int) Math.max(usual / 4, price);
        }

        /** Answers what all FORTS lacked. */
        int eat(Land land) {
            int starved = 0;
            for (int i = 0; i < land.forts; i++) {
                int eaten = Math.min(stores[i], land.fortEats[i]);
                stores[i] -= eaten;
                lacked[i] = land.fortEats[i] - eaten;
                starved += lacked[i];
            }
            return starved;
        }

        void use(Land land) {
            for (int i = 0; i < land.towns; i++) {
                stocks[i] -= Math.min(stocks[i], land.townWants[i]);
            }
        }
    }

    /** How all stood behind each MONTH of a RUN. */
    private static final class Records {
        final int[] forts = new int[MONTHS * FORTS * 2];
        final int[] pans = new int[MONTHS * PANS * 2];
        final int[] towns = new int[MONTHS * TOWNS * 3];
        final long[] books = new long[MONTHS * MERCHANTS * 3];

        void keepRealm(Realm realm, Land land, Papers papers, int month) {
            for (int i = 0; i < land.forts; i++) {
                forts[(month * FORTS + i) * 2] = realm.stores[i];
                forts[(month * FORTS + i) * 2 + 1] = realm.lacked[i];
            }
            for (int i = 0; i < land.pans; i++) {
                pans[(month * PANS + i) * 2] = realm.salt[i];
                pans[(month * PANS + i) * 2 + 1] = papers.waitingAt[i];
            }
            for (int i = 0; i < land.towns; i++) {
                towns[(month * TOWNS + i) * 3] = realm.stocks[i];
                towns[(month * TOWNS + i) * 3 + 1] = realm.priceIn(land, i);
                towns[(month * TOWNS + i) * 3 + 2] = realm.smuggled[i];
            }
        }

        void keepBook(int merchant, int month, long coins, int way, long gain) {
            int row = (month * MERCHANTS + merchant) * 3;
            books[row] = coins;
            books[row + 1] = way;
            books[row + 2] = gain;
        }
    }

    /** The WAY that gains a MERCHANT most. */
    private static final class Way {
        int number = WAY_STAY;
        int fort = NONE;
        int town = NONE;
        int n = 0;
        int sacks = 0;
        long gain = 0;
        int pan = NONE;
        long worth = 0;

        void choose(Run run, int merchant) {
            number = WAY_STAY;
            fort = NONE;
            town = NONE;
            n = 0;
            sacks = 0;
            gain = 0;
            pan = NONE;
            worth = NO_WORTH;
            for (int i = 0; i < run.land.pans; i++) {
                if (run.townFor(i) != NONE && run.worthFound > worth) {
                    pan = i;
                    worth = run.worthFound;
                }
            }
            if (pan != NONE) {
                weighCarrying(run, merchant);
                weighFarming(run, merchant);
                weighFounding(run, merchant);
                weighBuying(run, merchant);
            }
        }

        /** Ways are weighed in the order that the document has for like ones, so only a greater GAIN wins. */
        private void weigh(int what, int atFort, int fromTown, int tens, int forSacks, long gained) {
            if (tens > 0 && gained > gain) {
                number = what;
                fort = atFort;
                town = fromTown;
                n = tens;
                sacks = forSacks;
                gain = gained;
            }
        }

        private static int affordable(Run run, int merchant, int each) {
            int load = run.trade.load;
            return each <= 0 ? load : (int) Math.min(load, run.coins[merchant] / each);
        }

        private void weighCarrying(Run run, int merchant) {
            for (int f = 0; f < run.land.forts; f++) {
                for (int g = 0; g < run.land.towns; g++) {
                    int days = run.land.daysBetween(run.land.townPlace[g], run.land.fortPlace[f]);
                    int each = run.carryingCost(g, days);
                    int tens = Math.min(affordable(run, merchant, each), run.realm.grainLeft[g] / 10);
                    if (days != NONE && tens > 0) {
                        int rate = run.rateAt(f, days);
                        weigh(WAY_CARRY, f, g, tens, tens * rate, tens * (rate * worth - each));
                    }
                }
            }
        }

        private void weighFarming(Run run, int merchant) {
            int each = run.trade.farming;
            int tens = affordable(run, merchant, each);
            for (int f = 0; f < run.land.forts; f++) {
                if (run.hasRipeFarm(merchant, f) && tens > 0) {
                    int rate = run.rateAt(f, 0);
                    weigh(WAY_FARM, f, NONE, tens, tens * rate, tens * (rate * worth - each));
                }
            }
        }

        private void weighFounding(Run run, int merchant) {
            for (int f = 0; f < run.land.forts; f++) {
                if (!run.hasFarm(merchant, f) && run.coins[merchant] >= run.trade.founding) {
                    long ofTen = run.rateAt(f, 0) * worth - run.trade.farming;
                    weigh(WAY_FOUND, f, NONE, 1, 0, (FARM_TIMES * ofTen - run.trade.founding) / FARM_TIMES);
                }
            }
        }

        private void weighBuying(Run run, int merchant) {
            int coin = run.told[SLOT_COIN];
            if (coin > 0) {
                int tens = Math.min(affordable(run, merchant, 10 * coin), run.mostLeft / 10);
                weigh(WAY_BUY, NONE, NONE, tens, tens * 10, tens * 10 * (worth - coin));
            }
        }
    }

    /** A RUN: begun, played MONTH by MONTH, and then as it ended. */
    private static final class Run {
        // Not null ahead of the first RUN either.
        Land land = new Land();
        Trade trade = new Trade();
        final Reform rules = new Reform();
        final Realm realm = new Realm();
        final Papers papers = new Papers();
        final Loads loads = new Loads();
        final Records records = new Records();
        final Way way = new Way();
        final int[] asked = new int[CELL_NUMBER];
        final int[] told = new int[SLOTS];
        final long[] coins = new long[MERCHANTS];
        final int[] farms = new int[MERCHANTS * FORTS];
        final int[] deadFrom = new int[MERCHANTS];
        final int[] heirs = new int[MERCHANTS];
        final long[] totals = new long[RAN_ALL];
        boolean ready = false;
        int months = 0;
        int month = 0;
        int mostLeft = 0;
        long worthFound = NO_WORTH;

        void play(Land ofLand, Trade ofTrade, Reform reform, Facts facts, int n, int k) {
            land = ofLand;
            trade = ofTrade;
            months = n;
            rules.copyFrom(reform);
            begin(facts, k);
            for (month = 0; month < n; month++) {
                papers.loseForged(month);
                buryDead();
                makeSalt(facts, k);
                tellMonth();
                bringLoads();
                drawPapers();
                totals[RAN_STARVED] += realm.eat(land);
                realm.use(land);
                takeWays();
                smuggleAll();
                records.keepRealm(realm, land, papers, month);
            }
            finish();
        }

        private void begin(Facts facts, int k) {
            realm.start(land);
            papers.start(facts, k);
            loads.start();
            Arrays.fill(totals, 0);
            Arrays.fill(farms, NONE);
            for (int i = 0; i < trade.merchants; i++) {
                coins[i] = trade.coins[i];
            }
            readDeaths(facts, k);
        }

        private void readDeaths(Facts facts, int k) {
            Arrays.fill(deadFrom, NEVER);
            Arrays.fill(heirs, NONE);
            for (int i = 0; i < facts.count; i++) {
                int merchant = facts.subjects[i];
                if (facts.isKnown(i, FACT_DEAD, k) && facts.months[i] <= deadFrom[merchant]) {
                    deadFrom[merchant] = facts.months[i];
                    heirs[merchant] = facts.values[i];
                }
            }
        }

        /** The MONTH behind the last is told too, for what is asked of the RUN's end. */
        private void finish() {
            month = months;
            tellMonth();
            papers.closeQueue();
            totals[RAN_WAIT] = papers.queued;
            totals[RAN_WAIT_SACKS] = papers.waiting;
            totals[RAN_MONTHS] = months;
            ready = true;
        }

        boolean isDead(int merchant) {
            return deadFrom[merchant] <= month;
        }

        private void buryDead() {
            for (int i = 0; i < trade.merchants; i++) {
                if (deadFrom[i] == month) {
                    bury(i);
                }
            }
        }

        private void bury(int merchant) {
            int heir = heirs[merchant];
            if (heir != NONE && isDead(heir)) {
                heir = NONE;
            }
            payTo(heir, coins[merchant]);
            coins[merchant] = 0;
            papers.leaveTo(heir, merchant);
            loads.leaveTo(heir, merchant);
            for (int f = 0; f < FORTS; f++) {
                farms[merchant * FORTS + f] = NONE;
            }
        }

        /** What would be nobody's goes to the state. */
        private void payTo(int merchant, long amount) {
            if (merchant == NONE) {
                totals[RAN_STATE] += amount;
            } else {
                coins[merchant] += amount;
            }
        }

        private void makeSalt(Facts facts, int k) {
            for (int i = 0; i < land.pans; i++) {
                int usual = land.panMakes[i * YEAR + month % YEAR];
                realm.salt[i] += facts.saltByWeather(usual, i, month, k);
            }
        }

        private void tellMonth() {
            askCommon();
            for (int slot = SLOT_COIN; slot <= SLOT_GUARD; slot++) {
                int most = slot == SLOT_GUARD ? HUNDRED : HIGHEST;
                told[slot] = Math.max(0, Math.min(most, rules.tell(slot, asked)));
            }
            mostLeft = told[SLOT_MOST];
            realm.refillGrain(land);
        }

        private void askCommon() {
            asked[WORD_YEAR] = month / YEAR;
            asked[WORD_MONTH] = month % YEAR;
            asked[WORD_WAITING] = papers.waiting;
            asked[WORD_MADE] = realm.allSalt(land.pans);
        }

        int rateAt(int fort, int days) {
            int eats = land.fortEats[fort];
            askCommon();
            asked[WORD_STORE] = realm.stores[fort];
            asked[WORD_NEED] = eats == 0 ? HIGHEST : realm.stores[fort] / eats;
            asked[WORD_DAYS] = days;
            return Math.max(0, Math.min(HIGHEST, rules.tell(SLOT_RATE, asked)));
        }

        private void bringLoads() {
            for (int i = loads.first; i < loads.count; i++) {
                if (loads.comes[i] == month && loads.cargo[i] == CARGO_GRAIN) {
                    bringGrain(i);
                } else if (loads.comes[i] == month) {
                    sellSalt(i);
                }
            }
            loads.forgetCome(month);
        }

        private void bringGrain(int load) {
            realm.stores[loads.goals[load]] += loads.amounts[load];
            if (loads.owners[load] != NONE && loads.promised[load] > 0) {
                papers.give(loads.owners[load], loads.pans[load], loads.promised[load], month, loads.days[load], 0);
            }
        }

        private void sellSalt(int load) {
            int town = loads.goals[load];
            long sacks = loads.amounts[load];
            int each = Math.max(0, realm.priceIn(land, town) - told[SLOT_TAX]);
            payTo(loads.owners[load], sacks * each);
            totals[RAN_STATE] += sacks * told[SLOT_TAX];
            totals[RAN_SOLD] += sacks;
            realm.stocks[town] += loads.amounts[load];
        }

        private void drawPapers() {
            papers.closeQueue();
            classAll();
            for (int i = 0; i < land.pans; i++) {
                if (papers.waitingAt[i] > 0) {
                    drawAt(i);
                }
            }
        }

        private void classAll() {
            askCommon();
            for (int i = 0; i < papers.queued; i++) {
                int number = papers.queue[i];
                asked[WORD_AGE] = month - papers.given[number];
                asked[WORD_SACKS] = papers.sacks[number];
                asked[WORD_BOUGHT] = papers.bought[number];
                asked[WORD_DAYS] = papers.days[number];
                int found = 0;
                while (found < rules.classes && rules.tell(SLOT_CLASSES + found, asked) == 0) {
                    found++;
                }
                papers.classes[number] = found;
            }
        }

        /** Once a PAPER finds too little salt, it holds up those of its PAN behind it, of later CLASSES too. */
        private void drawAt(int pan) {
            int town = townFor(pan);
            for (int c = 0; c <= rules.classes; c++) {
                for (int i = 0; i < papers.queued; i++) {
                    int number = papers.queue[i];
                    if (papers.pans[number] == pan && papers.classes[number] == c) {
                        if (papers.sacks[number] > realm.salt[pan]) {
                            return;
                        }
                        drawPaper(number, pan, town);
                    }
                }
            }
        }

        private void drawPaper(int number, int pan, int town) {
            int sacks = papers.sacks[number];
            int holder = papers.holders[number];
            realm.salt[pan] -= sacks;
            papers.draw(number, month);
            totals[RAN_DRAWN]++;
            totals[RAN_WAITED] += month - papers.given[number];
            if (town == NONE || holder == NONE) {
                totals[RAN_LOST] += sacks;
                return;
            }
            int days = land.daysBetween(land.panPlace[pan], land.townPlace[town]);
            long cost = (long) sacks * (days * trade.haul / 10);
            coins[holder] -= Math.min(coins[holder], cost);
            loads.sendSalt(holder, town, sacks, month, days);
        }

        /** The TOWN that gives a PAN its WORTH, or NONE. The WORTH is kept beside it; none is as low as NO_WORTH. */
        int townFor(int pan) {
            int found = NONE;
            worthFound = NO_WORTH;
            for (int i = 0; i < land.towns; i++) {
                int days = land.daysBetween(land.panPlace[pan], land.townPlace[i]);
                if (days != NONE && land.serves(pan, land.townDistrict[i])) {
                    long worth = worthIn(pan, i, days);
                    if (worth > worthFound) {
                        found = i;
                        worthFound = worth;
                    }
                }
            }
            return found;
        }

        private long worthIn(int pan, int town, int days) {
            int usual = Math.max(1, land.panUsual[pan]);
            long waits = monthsOfWay(days) + papers.waitingAt[pan] / usual;
            return realm.priceIn(land, town) - told[SLOT_TAX] - days * trade.haul / 10 - trade.patience * waits;
        }

        int carryingCost(int town, int days) {
            return 10 * land.townCost[town] + days * trade.haul;
        }

        boolean hasFarm(int merchant, int fort) {
            return farms[merchant * FORTS + fort] != NONE;
        }

        boolean hasRipeFarm(int merchant, int fort) {
            return hasFarm(merchant, fort) && month - farms[merchant * FORTS + fort] >= FARM_RIPE;
        }

        private void takeWays() {
            for (int i = 0; i < trade.merchants; i++) {
                if (isDead(i)) {
                    records.keepBook(i, month, coins[i], NONE, 0);
                } else {
                    way.choose(this, i);
                    takeWay(i);
                    records.keepBook(i, month, coins[i], way.number, way.gain);
                }
            }
        }

        private void takeWay(int merchant) {
            switch (way.number) {
                case WAY_CARRY:
                    carryGrain(merchant);
                    break;
                case WAY_FARM:
                    coins[merchant] -= (long) way.n * trade.farming;
                    realm.stores[way.fort] += way.n * 10;
                    if (way.sacks > 0) {
                        papers.give(merchant, way.pan, way.sacks, month, 0, 0);
                    }
                    break;
                case WAY_FOUND:
                    coins[merchant] -= trade.founding;
                    farms[merchant * FORTS + way.fort] = month;
                    break;
                case WAY_BUY:
                    long price = (long) way.sacks * told[SLOT_COIN];
                    coins[merchant] -= price;
                    totals[RAN_STATE] += price;
                    mostLeft -= way.sacks;
                    papers.give(merchant, way.pan, way.sacks, month, 0, 1);
                    break;
                default:
                    break;
            }
        }

        private void carryGrain(int merchant) {
            int days = land.daysBetween(land.townPlace[way.town], land.fortPlace[way.fort]);
            coins[merchant] -= (long) way.n * carryingCost(way.town, days);
            realm.grainLeft[way.town] -= way.n * 10;
            loads.sendGrain(merchant, way, month, days);
        }

        private void smuggleAll() {
            Arrays.fill(realm.smuggled, 0);
            for (int i = 0; i < land.towns; i++) {
                for (int j = i + 1; j < land.towns; j++) {
                    if (land.townDistrict[i] != land.townDistrict[j]) {
                        smuggleBetween(i, j);
                    }
                }
            }
        }

        private void smuggleBetween(int i, int j) {
            int priceI = realm.priceIn(land, i);
            int priceJ = realm.priceIn(land, j);
            int days = land.daysBetween(land.townPlace[i], land.townPlace[j]);
            if (days == NONE || Math.abs(priceI - priceJ) <= days) {
                return;
            }
            int giver = priceI < priceJ ? i : j;
            int taker = priceI < priceJ ? j : i;
            int moved = Math.min(realm.stocks[giver] / 10, land.townWants[taker]);
            int caught = moved * told[SLOT_GUARD] / HUNDRED;
            realm.stocks[giver] -= moved;
            realm.stocks[taker] += moved - caught;
            realm.smuggled[taker] += moved - caught;
            totals[RAN_SMUGGLED] += moved - caught;
            totals[RAN_CAUGHT] += caught;
        }
    }
}
