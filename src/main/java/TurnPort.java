import java.util.Arrays;

/**
 * Words of streams wait at a port that sends one at a time; rules, told as texts, say which one
 * goes next. The document's promises say what each call answers; answers below 0 are its
 * constants, looked for in the order in which a promise names them.
 */
public final class TurnPort {
    public static final int BAD = -1, NOT = -2, FULL = -3, NONE = -4, NULL = -11, CAST = -12, INDEX = -13, SIZE = -14;

    // What a stream is told, as set numbers it.
    private static final int CLASS = 0, SHARE = 1, DUE = 2, GAP = 3, HOUSE = 4, BURST = 5, RATE = 6, SETTINGS = 7;
    private static final int[] LEAST_TOLD = {0, 1, 0, 0, 0, 0, 0};
    private static final int[] MOST_TOLD = {9, 16, 999, 99, 3, 999, 16};

    // What a word came with, in the order of the letters that a rule calls it by.
    private static final String LETTERS = "cltdnf";
    private static final int LENGTH_TRAIT = 1, TICK_TRAIT = 2, DUE_TRAIT = 3, END_TRAIT = 5, TRAITS = 6;

    private static final int WAITING = 0, SENT = 1, LEFT = 2, DROPPED = 3;

    private static final int STREAMS = 8, SHEETS = 4, LANES = 3, MOST_ITEMS = 24;
    private static final int MOST_WORDS = 1000, MOST_LENGTH = 99, MOST_ROOM = 24, MOST_AT_ONCE = 12;
    private static final int MOST_TICKS = 500, LAST_TICK = 99999;
    private static final int TAPE_ROOM = 40, MOST_TERMS = 6, MOST_NUMBER = 99, FIRST_FAULT = -20;
    private static final int WHOLE_RATE = 16;
    private static final int RANKS = 32, MOST_HEAPS = 8;
    private static final int MOST_FOUND = 8, SMALL_NUMBERS = 4, SMALL_TERMS = 16;
    private static final int MOST_ORDERED = 6, ORDER_SETS = 64, MORE_THAN_LATE = 1000000000;

    // Calls whose good answers may be below 0 move their bad ones out of the way by these.
    private static final long BELOW_RANKS = 1L << 40;
    private static final int BELOW_TICKS = 100000;

    private final Stream[] streams = new Stream[STREAMS];
    private final Sheet[] sheets = new Sheet[SHEETS];
    private final Word[] words = new Word[MOST_WORDS];
    private int came;
    private final Tape tape = new Tape();
    private final int[] newWeights = new int[TRAITS];
    private final Rule houseRule = new Rule(TICK_TRAIT);
    private final Rule rootRule = new Rule(TICK_TRAIT);
    private final Port port = new Port(new Store(houseRule, rootRule));
    private final Heaps heapTable = new Heaps();
    private final Picked picked = new Picked();

    public TurnPort() {
        for (int i = 0; i < STREAMS; i++) {
            streams[i] = new Stream(i);
        }
        for (int i = 0; i < SHEETS; i++) {
            sheets[i] = new Sheet();
        }
    }

    // ---- 1 streams, words, rules

    public int set(int stream, int what, int v) {
        Stream s = streamAt(stream);
        if (s == null || what < 0 || what >= SETTINGS || v < LEAST_TOLD[what] || v > MOST_TOLD[what]) {
            return BAD;
        }
        return s.change(what, v);
    }

    public int come(int stream, int length) {
        if (!canCome(stream, length)) {
            return BAD;
        }
        return came < MOST_WORDS ? welcome(stream, length) : FULL;
    }

    public int comes(int sheet, int lane, int i, int n) {
        if (n < 0 || n > MOST_AT_ONCE) {
            return BAD;
        }
        int wrong = wrongSpan(sheet, lane, i, 2 * n);
        if (wrong < 0) {
            return wrong;
        }
        for (int k = 0; k < n; k++) {
            if (!canCome(itemAt(sheet, i + 2 * k), itemAt(sheet, i + 2 * k + 1))) {
                return NOT;
            }
        }
        if (came + n > MOST_WORDS) {
            return FULL;
        }
        int first = n == 0 ? NONE : came;
        for (int k = 0; k < n; k++) {
            welcome(itemAt(sheet, i + 2 * k), itemAt(sheet, i + 2 * k + 1));
        }
        return first;
    }

    public int type(long w, int n) {
        if (n < 1 || n > 8 || !Tape.canHold(w, n)) {
            return BAD;
        }
        return tape.hasRoomFor(n) ? tape.append(w, n) : FULL;
    }

    public int rule(int which) {
        if (which != 0 && which != 1) {
            return BAD;
        }
        int terms = tape.readRule(newWeights);
        tape.clear();
        if (terms > 0) {
            (which == 0 ? houseRule : rootRule).become(newWeights);
        }
        return terms;
    }

    public int told(int word, int what) {
        Word w = wordAt(word);
        if (w == null) {
            return BAD;
        }
        switch (what) {
            case 0: return w.state;
            case 1: return w.stream;
            case 2: return w.length;
            case 3: return w.tick;
            case 4: return w.end;
            case 5: return w.gate;
            case 6: return w.due;
            case 7: return w.place;
            case 8: return w.wasSent() ? w.sentFrom : NONE;
            case 9: return w.house;
            default: return BAD;
        }
    }

    public long rank(int word, int which) {
        Word w = wordAt(word);
        if (w == null || which != 0 && which != 1) {
            return BAD - BELOW_RANKS;
        }
        return (which == 0 ? houseRule : rootRule).rankOf(w);
    }

    public int full(int what, int v) {
        if (what == 0 && v >= 1 && v <= MOST_ROOM) {
            return port.changeRoom(v);
        }
        if (what == 1 && v >= 0 && v <= 2) {
            return port.changeDrops(v);
        }
        return BAD;
    }

    // ---- 2 the port

    public int ticks(int n) {
        if (n < 1 || n > MOST_TICKS) {
            return BAD;
        }
        if (port.now + n > LAST_TICK) {
            return FULL;
        }
        int until = port.now + n;
        for (int round = 0; round < n && port.now < until; round++) {
            Word left = port.goOn(until);
            if (left != null) {
                streams[left.stream].taken += left.length;
            }
        }
        return port.now;
    }

    public int next() {
        Word w = port.store.nextWord(port.now);
        return w == null ? NONE : w.number;
    }

    public int count(int what) {
        switch (what) {
            case 0: return came;
            case 1: return port.store.waiting.size;
            case 2: return port.sending == null ? 0 : 1;
            case 3: return port.leftCount;
            case 4: return port.droppedCount;
            case 5: return port.store.openCount(port.now);
            case 6: return port.now;
            case 7: return port.virtual;
            default: return BAD;
        }
    }

    public int sent(int i) {
        if (i < 0) {
            return BAD;
        }
        Word w = port.turnAt(i);
        return w == null ? NONE : w.number;
    }

    public int late(int word) {
        Word w = wordAt(word);
        if (w == null) {
            return BAD - BELOW_TICKS;
        }
        return w.state == LEFT ? w.lateAt(w.sentFrom + w.length) : NONE - BELOW_TICKS;
    }

    public int behind(int word, int what) {
        Word w = wordAt(word);
        if (w == null || what < -1) {
            return BAD;
        }
        if (!w.wasSent()) {
            return NOT;
        }
        return what == -1 ? port.overtakers(w) : port.overtaker(w, what);
    }

    // ---- 3 promises, heaps, rules found, orders

    public int promise(int stream, int most) {
        Stream s = streamAt(stream);
        if (s == null || most < 1 || most > MOST_LENGTH) {
            return BAD;
        }
        int own = s.told[CLASS];
        int lesserRates = sumUpTo(own - 1, RATE);
        if (sumUpTo(own, RATE) > WHOLE_RATE || lesserRates >= WHOLE_RATE) {
            return NONE;
        }
        int free = WHOLE_RATE - lesserRates;
        return (WHOLE_RATE * (sumUpTo(own, BURST) + most) + free - 1) / free;
    }

    public int taken(int stream) {
        Stream s = streamAt(stream);
        return s == null ? BAD : s.taken;
    }

    public int lags(int stream) {
        Stream s = streamAt(stream);
        if (s == null) {
            return BAD - BELOW_TICKS;
        }
        if (!takesPart(s)) {
            return NONE - BELOW_TICKS;
        }
        int shares = 0;
        int all = 0;
        for (int i = 0; i < STREAMS; i++) {
            shares += takesPart(streams[i]) ? streams[i].told[SHARE] : 0;
            all += streams[i].taken;
        }
        int owed = s.told[SHARE] * all - shares * s.taken;
        return shares > 0 ? Math.floorDiv(owed, shares) : 0;
    }

    public int heaps(int sheet, int lane, int i, int n, int k) {
        if (k != 1 && k != 2 && k != 4 && k != 8) {
            return BAD;
        }
        int wrong = takeRanks(sheet, lane, i, n);
        return wrong < 0 ? wrong : heapTable.outOfOrder(k);
    }

    public int cut(int sheet, int lane, int i, int n, int k) {
        if (k < 1 || k > MOST_HEAPS) {
            return BAD;
        }
        int wrong = takeRanks(sheet, lane, i, n);
        return wrong < 0 ? wrong : heapTable.bestCut(k);
    }

    public int found(int sheet, int lane, int i, int n) {
        if (n < 2 || n > MOST_FOUND) {
            return BAD;
        }
        int wrong = pickWords(sheet, lane, i, n, false);
        return wrong < 0 ? wrong : picked.firstRule();
    }

    public int order(int sheet, int lane, int i, int n, int what) {
        if (n < 1 || n > MOST_ORDERED || what < -1 || what >= n) {
            return BAD;
        }
        int wrong = pickWords(sheet, lane, i, n, true);
        if (wrong < 0) {
            return wrong;
        }
        picked.sortByNumber();
        int sum = picked.leastLate(port.now);
        return what == -1 ? sum : picked.bestAt(what, port.now);
    }

    // ---- 4 sheets

    public int sheet(int sheet, int lane, int n) {
        Sheet s = sheetAt(sheet);
        if (s == null || lane < 0 || lane >= LANES || n > MOST_ITEMS) {
            return BAD;
        }
        if (n < 0) {
            return SIZE;
        }
        s.startAnew(lane, n);
        return n;
    }

    public int drop(int sheet) {
        Sheet s = sheetAt(sheet);
        if (s == null) {
            return BAD;
        }
        return s.holdsNothing() ? NULL : s.empty();
    }

    public int item(int sheet, int lane, int i, int v) {
        int wrong = wrongSpan(sheet, lane, i, 1);
        if (wrong < 0) {
            return wrong;
        }
        sheets[sheet].put(i, v);
        return 1;
    }

    public int copy(int from, int i, int to, int j, int n) {
        Sheet source = sheetAt(from);
        Sheet target = sheetAt(to);
        if (source == null || target == null) {
            return BAD;
        }
        if (source.holdsNothing() || target.holdsNothing()) {
            return NULL;
        }
        if (source.lane != target.lane) {
            return CAST;
        }
        if (!source.hasSpan(i, n) || !target.hasSpan(j, n)) {
            return INDEX;
        }
        System.arraycopy(source.items, i, target.items, j, n);
        return n;
    }

    // ---- what several calls look up

    private Stream streamAt(int i) {
        return i < 0 || i >= STREAMS ? null : streams[i];
    }

    private Sheet sheetAt(int i) {
        return i < 0 || i >= SHEETS ? null : sheets[i];
    }

    private Word wordAt(int i) {
        return i < 0 || i >= came ? null : words[i];
    }

    /** The first of BAD, NULL, CAST, INDEX that holds for n items from i on, or 0. */
    private int wrongSpan(int sheet, int lane, int i, int n) {
        Sheet s = sheetAt(sheet);
        if (s == null || lane < 0 || lane >= LANES) {
            return BAD;
        }
        if (s.holdsNothing()) {
            return NULL;
        }
        if (s.lane != lane) {
            return CAST;
        }
        return s.hasSpan(i, n) ? 0 : INDEX;
    }

    private int itemAt(int sheet, int i) {
        Sheet s = sheetAt(sheet);
        return s == null ? 0 : s.at(i);
    }

    private static boolean canCome(int stream, int length) {
        return stream >= 0 && stream < STREAMS && length >= 1 && length <= MOST_LENGTH;
    }

    private int welcome(int stream, int length) {
        Word w = new Word(came, streams[stream], length, port.now, port.virtual);
        words[came] = w;
        came++;
        streams[stream].follow(w);
        port.letIn(w);
        return w.number;
    }

    private int sumUpTo(int greatestClass, int what) {
        int sum = 0;
        for (int i = 0; i < STREAMS; i++) {
            if (streams[i].told[CLASS] <= greatestClass) {
                sum += streams[i].told[what];
            }
        }
        return sum;
    }

    private boolean takesPart(Stream s) {
        return s.taken > 0 || port.store.waiting.countOf(s.number) > 0;
    }

    private int takeRanks(int sheet, int lane, int i, int n) {
        if (n < 1 || n > MOST_ITEMS) {
            return BAD;
        }
        int wrong = wrongSpan(sheet, lane, i, n);
        if (wrong < 0) {
            return wrong;
        }
        heapTable.clear();
        for (int k = 0; k < n; k++) {
            int r = itemAt(sheet, i + k);
            if (r < 0 || r >= RANKS) {
                return NOT;
            }
            heapTable.add(r);
        }
        return 0;
    }

    private int pickWords(int sheet, int lane, int i, int n, boolean mustWait) {
        int wrong = wrongSpan(sheet, lane, i, n);
        if (wrong < 0) {
            return wrong;
        }
        picked.clear();
        for (int k = 0; k < n; k++) {
            Word w = wordAt(itemAt(sheet, i + k));
            if (w == null || picked.has(w) || mustWait && w.state != WAITING) {
                return NOT;
            }
            picked.add(w);
        }
        return 0;
    }

    /** What one stream is told, and what its latest word left for the next one. */
    private static final class Stream {
        final int number;
        final int[] told = {0, 1, 100, 0, 0, 0, 0};
        int latestEnd;
        int latestGate;
        int cameCount;
        int taken;

        Stream(int number) {
            this.number = number;
        }

        int change(int what, int v) {
            if (what < 0 || what >= told.length) {
                return BAD;
            }
            int was = told[what];
            told[what] = v;
            return was;
        }

        int gateAt(int tick) {
            return cameCount == 0 ? tick : Math.max(tick, latestGate + told[GAP]);
        }

        int endFor(int length, int virtual) {
            int share = told[SHARE];
            return Math.max(latestEnd, virtual) + (share > 0 ? 16 * length / share : 0);
        }

        // A word that is dropped has been followed all the same: nothing is changed back.
        void follow(Word w) {
            latestEnd = w.end;
            latestGate = w.gate;
            cameCount++;
        }
    }

    /** A word keeps all it came with, so that a rule told later can rank it anew. */
    private static final class Word {
        final int number;
        final int stream;
        final int house;
        final int kind;
        final int length;
        final int tick;
        final int due;
        final int place;
        final int end;
        final int gate;
        int state = WAITING;
        int sentFrom;
        int turn;

        Word(int number, Stream s, int length, int tick, int virtual) {
            this.number = number;
            this.stream = s.number;
            this.house = s.told[HOUSE];
            this.kind = s.told[CLASS];
            this.length = length;
            this.tick = tick;
            this.due = tick + s.told[DUE];
            this.place = s.cameCount;
            this.end = s.endFor(length, virtual);
            this.gate = s.gateAt(tick);
        }

        int trait(int which) {
            switch (which) {
                case 0: return kind;
                case LENGTH_TRAIT: return length;
                case TICK_TRAIT: return tick;
                case DUE_TRAIT: return due;
                case END_TRAIT: return end;
                default: return place;
            }
        }

        boolean wasSent() {
            return state == SENT || state == LEFT;
        }

        boolean isOpen(int now) {
            return gate <= now;
        }

        int lateAt(int leaves) {
            return leaves - due;
        }
    }

    /** A rule is kept as one weight a letter: terms of like letters add up. */
    private static final class Rule {
        private final int[] weights = new int[TRAITS];

        Rule(int trait) {
            if (trait >= 0 && trait < TRAITS) {
                weights[trait] = 1;
            }
        }

        void become(int[] newWeights) {
            for (int i = 0; i < TRAITS && i < newWeights.length; i++) {
                weights[i] = newWeights[i];
            }
        }

        long rankOf(Word w) {
            long sum = 0;
            for (int i = 0; i < TRAITS; i++) {
                sum += (long) weights[i] * w.trait(i);
            }
            return sum;
        }
    }

    /** The bytes typed so far, and the reader that takes them as a rule. */
    private static final class Tape {
        private static final int BLANK = 32, LAST_SIGN = 126, TOO_MUCH = 1000;
        private final byte[] signs = new byte[TAPE_ROOM];
        private int length;
        private int at;

        static boolean canHold(long w, int n) {
            for (int i = 0; i < n; i++) {
                int b = byteOf(w, i);
                if (b < BLANK || b > LAST_SIGN) {
                    return false;
                }
            }
            return true;
        }

        private static int byteOf(long w, int i) {
            return (int) (w >>> 8 * i) & 255;
        }

        boolean hasRoomFor(int n) {
            return n <= TAPE_ROOM - length;
        }

        int append(long w, int n) {
            for (int i = n - 1; i >= 0 && length < TAPE_ROOM; i--) {
                signs[length] = (byte) byteOf(w, i);
                length++;
            }
            return length;
        }

        void clear() {
            length = 0;
        }

        /** Fills weights with the rule's: how many terms it has, or a fault. */
        int readRule(int[] weights) {
            Arrays.fill(weights, 0);
            goTo(0);
            int terms = 0;
            while (terms < MOST_TERMS && (terms == 0 || at < length)) {
                int fault = readTerm(weights, terms == 0);
                if (fault < 0) {
                    return fault;
                }
                terms++;
            }
            return at < length ? faultAt(at) : terms;
        }

        private int readTerm(int[] weights, boolean first) {
            int sign = signAt(at) == '-' ? -1 : 1;
            if (signAt(at) == '+' || signAt(at) == '-') {
                goTo(at + 1);
            } else if (!first) {
                return faultAt(at);
            }
            int number = 1;
            if (isDigit(signAt(at))) {
                int start = at;
                number = readNumber();
                if (number < 1 || number > MOST_NUMBER) {
                    return faultAt(start);
                }
            }
            int letter = LETTERS.indexOf((char) signAt(at));
            if (letter < 0 || letter >= weights.length) {
                return faultAt(at);
            }
            weights[letter] += sign * number;
            goTo(at + 1);
            return 0;
        }

        // The value stops growing where it is wrong anyway, as a tape's digits overflow an int.
        private int readNumber() {
            int value = 0;
            int i = at;
            for (; i < length && isDigit(signAt(i)); i++) {
                value = Math.min(TOO_MUCH, 10 * value + signAt(i) - '0');
            }
            goTo(i);
            return value;
        }

        private void goTo(int place) {
            at = place;
            while (at < length && signAt(at) == BLANK) {
                at++;
            }
        }

        // 0 stands for the end: no typed byte is 0.
        private int signAt(int i) {
            return i >= 0 && i < length && i < TAPE_ROOM ? signs[i] : 0;
        }

        private static boolean isDigit(int sign) {
            return sign >= '0' && sign <= '9';
        }

        private static int faultAt(int place) {
            return FIRST_FAULT - place;
        }
    }

    /** Words in the order in which they came. One more than may wait stands here while one is dropped. */
    private static final class Line {
        private final Word[] row = new Word[MOST_ROOM + 1];
        int size;

        Word at(int i) {
            return i < 0 || i >= size || i >= row.length ? null : row[i];
        }

        void add(Word w) {
            if (size < row.length) {
                row[size] = w;
                size++;
            }
        }

        void removeAt(int i) {
            if (i < 0 || i >= size || size > row.length) {
                return;
            }
            for (int k = i + 1; k < size; k++) {
                row[k - 1] = row[k];
            }
            size--;
            row[size] = null;
        }

        int placeOf(Word w) {
            for (int i = 0; i < size; i++) {
                if (row[i] == w) {
                    return i;
                }
            }
            return -1;
        }

        int countOf(int stream) {
            int found = 0;
            for (int i = 0; i < size; i++) {
                found += row[i].stream == stream ? 1 : 0;
            }
            return found;
        }
    }

    /**
     * What waits. A mark is kept as the word that it came with, for its rank and its house; that
     * word may be gone while its mark still stands for another one of its house.
     */
    private static final class Store {
        final Line waiting = new Line();
        private final Line marks = new Line();
        private final Rule houseRule;
        private final Rule rootRule;

        Store(Rule houseRule, Rule rootRule) {
            this.houseRule = houseRule;
            this.rootRule = rootRule;
        }

        void put(Word w) {
            waiting.add(w);
            marks.add(w);
        }

        int openCount(int now) {
            int open = 0;
            for (int i = 0; i < waiting.size; i++) {
                open += waiting.at(i).isOpen(now) ? 1 : 0;
            }
            return open;
        }

        /** The first tick at which a word is open, or never. */
        int firstGate(int never) {
            int first = never;
            for (int i = 0; i < waiting.size; i++) {
                first = Math.min(first, waiting.at(i).gate);
            }
            return first;
        }

        Word nextWord(int now) {
            Word mark = marks.at(nextMark(now));
            return mark == null ? null : leastOf(mark.house, now);
        }

        Word take(int now) {
            int place = nextMark(now);
            Word mark = marks.at(place);
            Word w = mark == null ? null : leastOf(mark.house, now);
            if (w != null) {
                marks.removeAt(place);
                waiting.removeAt(waiting.placeOf(w));
            }
            return w;
        }

        private int nextMark(int now) {
            int houses = openHouses(now);
            int best = -1;
            long least = 0;
            for (int i = 0; i < marks.size; i++) {
                Word mark = marks.at(i);
                if ((houses >> mark.house & 1) == 0) {
                    continue;
                }
                long rank = rootRule.rankOf(mark);
                if (best < 0 || rank < least) {
                    best = i;
                    least = rank;
                }
            }
            return best;
        }

        /** One bit a house. */
        private int openHouses(int now) {
            int houses = 0;
            for (int i = 0; i < waiting.size; i++) {
                Word w = waiting.at(i);
                houses |= w.isOpen(now) ? 1 << w.house : 0;
            }
            return houses;
        }

        private Word leastOf(int house, int now) {
            Word best = null;
            long least = 0;
            for (int i = 0; i < waiting.size; i++) {
                Word w = waiting.at(i);
                if (w.house != house || !w.isOpen(now)) {
                    continue;
                }
                long rank = houseRule.rankOf(w);
                if (best == null || rank < least) {
                    best = w;
                    least = rank;
                }
            }
            return best;
        }

        Word victim(int drops) {
            switch (drops) {
                case 1: return greatest();
                case 2: return latestOf(fullestStream());
                default: return waiting.at(waiting.size - 1);
            }
        }

        private Word greatest() {
            Word worst = null;
            long most = 0;
            for (int i = 0; i < waiting.size; i++) {
                long rank = houseRule.rankOf(waiting.at(i));
                if (worst == null || rank >= most) {
                    worst = waiting.at(i);
                    most = rank;
                }
            }
            return worst;
        }

        private int fullestStream() {
            int fullest = 0;
            for (int s = 1; s < STREAMS; s++) {
                if (waiting.countOf(s) > waiting.countOf(fullest)) {
                    fullest = s;
                }
            }
            return fullest;
        }

        private Word latestOf(int stream) {
            Word latest = null;
            for (int i = 0; i < waiting.size; i++) {
                if (waiting.at(i).stream == stream) {
                    latest = waiting.at(i);
                }
            }
            return latest;
        }

        void discard(Word w) {
            waiting.removeAt(waiting.placeOf(w));
            int mark = marks.placeOf(w);
            marks.removeAt(mark >= 0 ? mark : latestMark(w.house));
        }

        private int latestMark(int house) {
            int latest = -1;
            for (int i = 0; i < marks.size; i++) {
                if (marks.at(i).house == house) {
                    latest = i;
                }
            }
            return latest;
        }
    }

    /** Time, the word that is sent, and the row of turns. */
    private static final class Port {
        final Store store;
        private final Word[] turns = new Word[MOST_WORDS];
        private int turnCount;
        private int room = MOST_ROOM;
        private int drops;
        Word sending;
        int now;
        int virtual;
        int leftCount;
        int droppedCount;

        Port(Store store) {
            this.store = store;
        }

        int changeRoom(int v) {
            int was = room;
            room = v;
            return was;
        }

        int changeDrops(int v) {
            int was = drops;
            drops = v;
            return was;
        }

        // The room may have become less than what waits: the new word is beyond it only by itself.
        void letIn(Word w) {
            boolean beyond = store.waiting.size >= room;
            store.put(w);
            Word victim = beyond ? store.victim(drops) : null;
            if (victim != null) {
                store.discard(victim);
                victim.state = DROPPED;
                droppedCount++;
            }
        }

        /** Goes on to where something changes, at most to until: the word that left then, or null. */
        Word goOn(int until) {
            if (sending == null) {
                startSending();
            }
            int change = sending == null ? store.firstGate(until) : sending.sentFrom + sending.length;
            now = Math.min(until, Math.max(now + 1, change));
            return sending != null && now >= change ? finishSending() : null;
        }

        private void startSending() {
            Word w = turnCount < turns.length ? store.take(now) : null;
            if (w == null) {
                return;
            }
            w.state = SENT;
            w.sentFrom = now;
            w.turn = turnCount;
            turns[turnCount] = w;
            turnCount++;
            sending = w;
        }

        private Word finishSending() {
            Word w = sending;
            if (w != null) {
                w.state = LEFT;
                virtual = w.end;
                leftCount++;
            }
            sending = null;
            return w;
        }

        Word turnAt(int i) {
            return i < 0 || i >= turnCount || i >= turns.length ? null : turns[i];
        }

        int overtakers(Word w) {
            int passed = 0;
            for (int i = 0; i < w.turn && i < turnCount; i++) {
                passed += turns[i].number > w.number ? 1 : 0;
            }
            return passed;
        }

        int overtaker(Word w, int which) {
            int passed = 0;
            for (int i = 0; i < w.turn && i < turnCount; i++) {
                if (turns[i].number > w.number) {
                    if (passed == which) {
                        return turns[i].number;
                    }
                    passed++;
                }
            }
            return NONE;
        }
    }

    /** A row of one lane. Items are kept as ints, cut to the lane's bits when they are put. */
    private static final class Sheet {
        private static final int NO_LANE = -1;
        final int[] items = new int[MOST_ITEMS];
        int lane = NO_LANE;
        private int size;

        boolean holdsNothing() {
            return lane == NO_LANE;
        }

        void startAnew(int newLane, int n) {
            Arrays.fill(items, 0);
            lane = newLane;
            size = n;
        }

        int empty() {
            lane = NO_LANE;
            return size;
        }

        // Written so that no sum can wrap round: copy's n may be any int.
        boolean hasSpan(int i, int n) {
            return n >= 0 && n <= size && i >= 0 && i <= size - n;
        }

        int at(int i) {
            return i < 0 || i >= items.length ? 0 : items[i];
        }

        void put(int i, int v) {
            if (i >= 0 && i < items.length) {
                items[i] = lane == 0 ? (byte) v : lane == 1 ? (short) v : v;
            }
        }
    }

    /** Ranks in a row, and how many pairs leave in the wrong order when they fall to heaps. */
    private static final class Heaps {
        private final int[] row = new int[MOST_ITEMS];
        private int size;
        private final int[] spanCost = new int[RANKS * RANKS];
        private final int[] best = new int[RANKS];

        void clear() {
            size = 0;
        }

        void add(int rank) {
            if (size < row.length) {
                row[size] = rank;
                size++;
            }
        }

        // Heaps leave one behind the other, so a pair can only be wrong within one heap.
        int outOfOrder(int k) {
            int wrong = 0;
            for (int i = 0; i < size; i++) {
                for (int j = i + 1; j < size; j++) {
                    if (row[i] > row[j] && row[i] * k / RANKS == row[j] * k / RANKS) {
                        wrong++;
                    }
                }
            }
            return wrong;
        }

        int bestCut(int k) {
            countPairs();
            addUpSpans();
            for (int b = 0; b < RANKS; b++) {
                best[b] = spanCost[b];
            }
            for (int heap = 2; heap <= k; heap++) {
                addHeap();
            }
            return best[RANKS - 1];
        }

        /** At lesser * RANKS + greater: how many pairs of these two ranks stand the greater first. */
        private void countPairs() {
            Arrays.fill(spanCost, 0);
            for (int i = 0; i < size; i++) {
                for (int j = i + 1; j < size; j++) {
                    if (row[i] > row[j]) {
                        spanCost[row[j] * RANKS + row[i]]++;
                    }
                }
            }
        }

        /**
         * Turns pairs of two ranks into pairs within the span between them, narrow spans first. A
         * span of one rank or of none stands on the diagonal or below it, where all is 0.
         */
        private void addUpSpans() {
            for (int width = 1; width < RANKS; width++) {
                for (int a = 0; a + width < RANKS; a++) {
                    int b = a + width;
                    int both = spanCost[(a + 1) * RANKS + b] + spanCost[a * RANKS + b - 1];
                    spanCost[a * RANKS + b] += both - spanCost[(a + 1) * RANKS + b - 1];
                }
            }
        }

        // From the greatest rank down, so that best of lesser ranks is still that of one heap less.
        private void addHeap() {
            for (int b = RANKS - 1; b > 0; b--) {
                for (int a = 1; a <= b; a++) {
                    best[b] = Math.min(best[b], best[a - 1] + spanCost[a * RANKS + b]);
                }
            }
        }
    }

    /** Some words in a told order: which small rule gives it, and which order of them is best. */
    private static final class Picked {
        private final Word[] row = new Word[MOST_FOUND];
        private int size;
        private final int[] least = new int[ORDER_SETS];

        void clear() {
            size = 0;
        }

        void add(Word w) {
            if (size < row.length) {
                row[size] = w;
                size++;
            }
        }

        boolean has(Word w) {
            for (int i = 0; i < size; i++) {
                if (row[i] == w) {
                    return true;
                }
            }
            return false;
        }

        int firstRule() {
            for (int term = 0; term < SMALL_TERMS; term++) {
                if (fits(term, -1)) {
                    return digits(term);
                }
            }
            for (int term = 0; term < SMALL_TERMS; term++) {
                for (int second = 0; second < SMALL_TERMS; second++) {
                    if (fits(term, second)) {
                        return 100 * digits(term) + digits(second);
                    }
                }
            }
            return NONE;
        }

        private static int digits(int term) {
            return 10 * numberOf(term) + letterOf(term) + 1;
        }

        private static int letterOf(int term) {
            return term / SMALL_NUMBERS;
        }

        private static int numberOf(int term) {
            return term % SMALL_NUMBERS + 1;
        }

        private boolean fits(int term, int second) {
            for (int i = 1; i < size; i++) {
                int ahead = valueOf(row[i - 1], term) + valueOf(row[i - 1], second);
                int then = valueOf(row[i], term) + valueOf(row[i], second);
                if (ahead > then || ahead == then && row[i - 1].number > row[i].number) {
                    return false;
                }
            }
            return true;
        }

        private static int valueOf(Word w, int term) {
            return term < 0 ? 0 : numberOf(term) * w.trait(letterOf(term));
        }

        void sortByNumber() {
            for (int i = 1; i < size; i++) {
                Word w = row[i];
                int k = i;
                for (; k > 0 && row[k - 1].number > w.number; k--) {
                    row[k] = row[k - 1];
                }
                row[k] = w;
            }
        }

        /** For each set of words gone already: the least sum of what the others are late. */
        int leastLate(int now) {
            int all = size > MOST_ORDERED ? 0 : (1 << size) - 1;
            least[all] = 0;
            for (int gone = all - 1; gone >= 0; gone--) {
                int start = now + lengthOf(gone);
                int sum = MORE_THAN_LATE;
                for (int i = 0; i < size; i++) {
                    if ((gone >> i & 1) == 0) {
                        sum = Math.min(sum, lateFrom(start, i) + least[gone | 1 << i]);
                    }
                }
                least[gone] = sum;
            }
            return least[0];
        }

        private int lengthOf(int gone) {
            int sum = 0;
            for (int i = 0; i < size; i++) {
                sum += (gone >> i & 1) == 0 ? 0 : row[i].length;
            }
            return sum;
        }

        private int lateFrom(int start, int i) {
            return Math.max(0, row[i].lateAt(start + row[i].length));
        }

        /** Of best orders the first by numbers: at each place the least word that is still best. */
        int bestAt(int place, int now) {
            int gone = 0;
            int chosen = -1;
            for (int k = 0; k <= place && k < size && size <= MOST_ORDERED; k++) {
                chosen = bestBehind(gone, now);
                if (chosen < 0) {
                    return NONE;
                }
                gone |= 1 << chosen;
            }
            return chosen < 0 ? NONE : row[chosen].number;
        }

        private int bestBehind(int gone, int now) {
            int start = now + lengthOf(gone);
            for (int i = 0; i < size; i++) {
                if ((gone >> i & 1) == 0 && lateFrom(start, i) + least[gone | 1 << i] == least[gone]) {
                    return i;
                }
            }
            return -1;
        }
    }
}
