/**
 * Two straws in one glass: who gets how much, how sweet, in thought and in deed.
 * The promises are numbered in the project's document; README.md says how to use it.
 */
public final class TwoStraws {
    public static final int BAD = -1, NOT = -2, FULL = -3, STATE = -5, VOID = -2000000000;

    private static final int NOTHING_THERE = -11, OTHER_KIND = -12, NO_PLACE = -13, NO_SIZE = -14;
    private static final int FAULT_BASE = -100;

    private static final int MOST_STRAWS = 3, MOST_LEVEL = 999, MOST_ICE = 99, MOST_SECONDS = 999;
    private static final int SHORT_THOUGHT = 60, LONG_THOUGHT = 99, MOST_TURN = 60, MOST_GLASSES = 20;
    private static final int SHELVES = 6, MOST_ELEMENTS = 60;

    /** The numbers that mend() knows: the first eight are each straw's own, the others the glass's. */
    private static final int STRONG = 0, WIDE = 1, REACH = 2, TIRES = 3, EVERY = 4, RESTS = 5, HOLE = 6, STOPS = 7;
    private static final int MELTS = 8, SUGARED = 9, SUGAR = 10, HICCUPS = 11;
    private static final int OF_A_STRAW = 8, OF_THE_GLASS = 4;

    /** STRONG, WIDE, REACH: what a row of bytes tells of each straw. */
    private static final int TOLD_BY_ROW = 3;

    private static final int SORT_BYTES = 0, SORT_SHORTS = 1, SORT_INTS = 2, SORT_LONGS = 3, SORT_BOOLEANS = 4;
    private static final int HOLDS_NOTHING = -2, HOLDS_SIP = -1;

    private final Numbers numbers;
    private final Tape tape;
    private final Law law;
    private final Glass now;
    private final Glass kept;
    private final Thoughts thoughts;
    private final Changes changes;
    private final Sips sips;
    private final Shelf[] shelves;
    private boolean hasImage;

    public TwoStraws() {
        numbers = new Numbers();
        tape = new Tape();
        law = new Law(numbers);
        now = new Glass(numbers, law);
        kept = new Glass(numbers, law);
        thoughts = new Thoughts(numbers, law, now);
        changes = new Changes();
        sips = new Sips();
        shelves = new Shelf[SHELVES];
        for (int i = 0; i < SHELVES; i++) {
            shelves[i] = new Shelf();
        }
        hasImage = false;
    }

    // ---- straws, the glass

    public int straw(int strong, int reach) {
        if (!Numbers.fits(STRONG, strong) || !Numbers.fits(REACH, reach)) {
            return BAD;
        }
        if (numbers.straws >= MOST_STRAWS) {
            return FULL;
        }
        return numbers.add(strong, Numbers.FIRST[WIDE], reach);
    }

    public int straws(int shelf, int i, int n) {
        if (!isShelf(shelf) || n < 1 || n > MOST_STRAWS) {
            return BAD;
        }
        Shelf from = shelves[shelf];
        if (from.sort == HOLDS_NOTHING) {
            return 0;
        }
        if (from.sort != SORT_BYTES) {
            return OTHER_KIND;
        }
        int came = 0;
        int place = i;
        while (came < n && from.hasPlaces(place, TOLD_BY_ROW) && addStraw(from, place)) {
            came++;
            place += TOLD_BY_ROW;
        }
        return came;
    }

    public int mend(int number, int what, int v) {
        int place = numbers.place(number, what);
        if (place < 0 || !Numbers.fits(what, v)) {
            return VOID;
        }
        int was = numbers.told[place];
        if (was != v) {
            changes.note(place, was, v);
            numbers.told[place] = v;
        }
        return was;
    }

    public int of(int number, int what) {
        int place = numbers.place(number, what);
        if (place >= 0) {
            return numbers.told[place];
        }
        if (number != 0) {
            return VOID;
        }
        switch (what) {
            case 12: return now.level;
            case 13: return now.ice;
            case 14: return now.s;
            default: return VOID;
        }
    }

    public int feed(int letter) {
        if (letter < 0 || letter > 255) {
            return BAD;
        }
        return tape.add(letter) ? tape.length : FULL;
    }

    public int law() {
        int fault = tape.read();
        tape.length = 0;
        if (fault >= 0) {
            return FAULT_BASE - fault;
        }
        Text told = tape.text;
        tape.text = law.text;
        law.text = told;
        return 1;
    }

    public int wants(int straw, int l, int t) {
        if (!isStraw(straw) || !isWithin(l, MOST_LEVEL) || !isWithin(t, MOST_SECONDS)) {
            return BAD;
        }
        return law.want(straw, l, t);
    }

    // ---- a glass in thought

    public int glass(int n, int straw, int what) {
        if (!isWithin(n, MOST_SECONDS) || !isStraw(straw) || !isWithin(what, 2)) {
            return BAD;
        }
        return thoughts.after(n).tells(straw, what);
    }

    public int level(int n, int what) {
        if (!isWithin(n, MOST_SECONDS) || !isWithin(what, 1)) {
            return BAD;
        }
        Glass then = thoughts.after(n);
        return what == 0 ? then.level : then.ice;
    }

    public int empty() {
        return thoughts.emptyBehind();
    }

    public int more(int n, int what) {
        if (!isWithin(n, MOST_SECONDS) || !isWithin(what, 1)) {
            return BAD;
        }
        if (numbers.straws == 0) {
            return what == 0 ? NOT : 0;
        }
        Glass then = thoughts.after(n);
        int most = then.mostGot();
        return what == 0 ? most : then.got[most] - then.leastGot();
    }

    public int turns(int n, int mf, int straw) {
        if (mf < 0 || !isWithin(n, MOST_SECONDS) || !isStraw(straw)) {
            return BAD;
        }
        int m = mf / 10;
        int first = mf % 10;
        if (m < 1 || m > MOST_TURN || !isStraw(first)) {
            return BAD;
        }
        return thoughts.byTurns(n, m, first).got[straw];
    }

    public int mark(int ab) {
        return isPair(ab) ? thoughts.leastMark(ab / 10, ab % 10) : BAD;
    }

    public int halves(int ab, int what) {
        if (!isPair(ab) || !isWithin(what, 2)) {
            return BAD;
        }
        return thoughts.halved(ab / 10, ab % 10, what);
    }

    // ---- how deep, how strong

    public int reachFor(int straw, int n, int what) {
        if (!isStraw(straw) || !isWithin(n, SHORT_THOUGHT) || !isWithin(what, 3)) {
            return BAD;
        }
        int highest = Math.min(MOST_LEVEL, now.level + now.ice);
        int best = thoughts.bestNumber(straw, REACH, highest, n, what >= 2);
        return what % 2 == 0 ? best : thoughts.gain;
    }

    public int slow(int straw, int n) {
        if (!isStraw(straw) || !isWithin(n, SHORT_THOUGHT)) {
            return BAD;
        }
        return thoughts.bestNumber(straw, STRONG, numbers.ofStraw(straw, STRONG), n, false);
    }

    public int both(int n, int what) {
        if (!isWithin(n, SHORT_THOUGHT) || !isWithin(what, 1)) {
            return BAD;
        }
        if (numbers.straws < 2) {
            return STATE;
        }
        return what == 0 ? thoughts.selfish(n) : thoughts.together(n);
    }

    public int holeFor(int straw, int hole, int n) {
        if (!isStraw(straw) || !isWithin(hole, MOST_LEVEL) || !isWithin(n, SHORT_THOUGHT)) {
            return VOID;
        }
        return thoughts.othersGot(straw, hole, n) - thoughts.othersGot(straw, Numbers.FIRST[HOLE], n);
    }

    public int stopFor(int straw) {
        return isStraw(straw) ? thoughts.lastGain(straw) : BAD;
    }

    // ---- rings, draws

    public int judge(int shelf) {
        int refused = refusedRings(shelf);
        return refused != 0 ? refused : thoughts.firstUnlike(shelves[shelf], Thoughts.EVERYBODY);
    }

    public int who(int shelf, int what) {
        if (!isWithin(what, 1)) {
            return BAD;
        }
        int refused = refusedRings(shelf);
        if (refused != 0) {
            return refused;
        }
        return what == 0 ? thoughts.setsThatFit(shelves[shelf]) : thoughts.leastSet(shelves[shelf]);
    }

    public int since(int shelf, int straw) {
        if (!isStraw(straw)) {
            return BAD;
        }
        int refused = refusedRings(shelf);
        return refused != 0 ? refused : thoughts.stoppedBehind(shelves[shelf], straw);
    }

    public int drawn(int seed, int n, int straw) {
        if (n < 1 || n > MOST_GLASSES || straw != -1 && !isStraw(straw)) {
            return BAD;
        }
        return thoughts.hiccupped(seed, n, straw);
    }

    // ---- in deed

    public int second() {
        if (now.s >= MOST_SECONDS) {
            return STATE;
        }
        now.pass(Thoughts.EVERYBODY, 0, 0);
        now.seconds++;
        return now.level;
    }

    public int fill(int v) {
        if (!isWithin(v, MOST_LEVEL)) {
            return BAD;
        }
        int was = now.level;
        now.refill(v);
        return was;
    }

    public int ice(int v) {
        if (v < 1 || v > MOST_ICE) {
            return BAD;
        }
        if (now.ice + v > MOST_ICE) {
            return STATE;
        }
        now.ice += v;
        return now.ice;
    }

    public int led(int number, int what) {
        if (what == 3 || what == 4) {
            if (number != 0) {
                return BAD;
            }
            return what == 3 ? now.seconds : now.fills;
        }
        if (!isStraw(number) || !isWithin(what, 2)) {
            return BAD;
        }
        return now.tells(number, what);
    }

    public int image() {
        kept.copy(now);
        hasImage = true;
        return now.level;
    }

    public int back() {
        if (!hasImage) {
            return STATE;
        }
        now.copy(kept);
        return now.level;
    }

    public int undo() {
        return changes.takeBack(numbers.told) ? changes.done : STATE;
    }

    public int redo() {
        return changes.doAgain(numbers.told) ? changes.made - changes.done : STATE;
    }

    // ---- acts, shelves

    public int body(int kind) {
        if (!isWithin(kind, Sips.KINDS - 1)) {
            return BAD;
        }
        return sips.add(kind);
    }

    public int act(int body, int act, int x) {
        return sips.begin(body, act, x);
    }

    public int trace(int i) {
        return sips.traced(i);
    }

    public int keep(int shelf, int body) {
        if (!isShelf(shelf) || body != -1 && !sips.has(body)) {
            return BAD;
        }
        if (body == -1) {
            shelves[shelf].clear();
        } else {
            shelves[shelf].holdSip(body);
        }
        return 1;
    }

    public int row(int shelf, int sort, int n) {
        if (!isShelf(shelf) || !isWithin(sort, SORT_BOOLEANS) || n > MOST_ELEMENTS) {
            return BAD;
        }
        if (n < 0) {
            return NO_SIZE;
        }
        shelves[shelf].holdRow(sort, n);
        return 1;
    }

    public int put(int shelf, int i, long v) {
        int refused = refusedElement(shelf, i);
        if (refused != 0) {
            return refused;
        }
        Shelf to = shelves[shelf];
        to.elements[i] = Shelf.cut(to.sort, v);
        return 1;
    }

    public long element(int shelf, int i) {
        return refusedElement(shelf, i) != 0 ? Long.MIN_VALUE : shelves[shelf].elements[i];
    }

    public int shift(int shelf, int i, int other, int j, int n) {
        if (!isShelf(shelf) || !isShelf(other)) {
            return BAD;
        }
        Shelf from = shelves[shelf];
        Shelf to = shelves[other];
        if (from.sort == HOLDS_NOTHING || to.sort == HOLDS_NOTHING) {
            return NOTHING_THERE;
        }
        if (from.sort == HOLDS_SIP || from.sort != to.sort) {
            return OTHER_KIND;
        }
        if (!from.hasPlaces(i, n) || !to.hasPlaces(j, n)) {
            return NO_PLACE;
        }
        System.arraycopy(from.elements, i, to.elements, j, n);
        return n;
    }

    public int taken(int shelf, int k) {
        if (!isShelf(shelf) || !isWithin(k, Sips.KINDS - 1)) {
            return BAD;
        }
        Shelf from = shelves[shelf];
        if (from.sort == HOLDS_NOTHING) {
            return NOTHING_THERE;
        }
        if (from.sort != HOLDS_SIP) {
            return OTHER_KIND;
        }
        int kind = sips.kindOf(from.sip);
        return Sips.isUnder(kind, k) ? kind : OTHER_KIND;
    }

    public int count(int what) {
        switch (what) {
            case 0: return numbers.straws;
            case 1: return tape.length;
            case 2: return changes.done;
            case 3: return sips.size;
            case 4: return sips.ran;
            default: return BAD;
        }
    }

    // ---- what the calls ask of their numbers

    private static boolean isWithin(int v, int most) {
        return v >= 0 && v <= most;
    }

    private static boolean isShelf(int shelf) {
        return isWithin(shelf, SHELVES - 1);
    }

    private boolean isStraw(int straw) {
        return isWithin(straw, numbers.straws - 1);
    }

    private boolean isPair(int ab) {
        return ab >= 0 && isStraw(ab / 10) && isStraw(ab % 10) && ab / 10 != ab % 10;
    }

    /** 0, or why no rings can be read from the shelf. */
    private int refusedRings(int shelf) {
        if (!isShelf(shelf)) {
            return BAD;
        }
        int sort = shelves[shelf].sort;
        if (sort == HOLDS_NOTHING) {
            return NOTHING_THERE;
        }
        return sort == SORT_SHORTS ? 0 : OTHER_KIND;
    }

    /** 0, or why the shelf has no element i. */
    private int refusedElement(int shelf, int i) {
        if (!isShelf(shelf)) {
            return BAD;
        }
        Shelf at = shelves[shelf];
        if (at.sort == HOLDS_NOTHING) {
            return NOTHING_THERE;
        }
        if (at.sort == HOLDS_SIP) {
            return OTHER_KIND;
        }
        return i >= 0 && i < at.size ? 0 : NO_PLACE;
    }

    /** Whether the three elements from place on made one straw more; the caller looked that they are there. */
    private boolean addStraw(Shelf from, int place) {
        int strong = (int) from.elements[place];
        int wide = (int) from.elements[place + 1];
        int reach = (int) from.elements[place + 2];
        if (!Numbers.fits(STRONG, strong) || !Numbers.fits(WIDE, wide) || !Numbers.fits(REACH, reach)) {
            return false;
        }
        return numbers.add(strong, wide, reach) >= 0;
    }

    /** All that mend() tells, in one row, so that a change is a place and two values. */
    static final class Numbers {
        static final int[] LEAST = {0, 1, 0, 1, 1, 0, -1, 0, 0, 0, 0, 0};
        static final int[] MOST = {20, 9, 999, 99, 60, 60, 999, 999, 9, 999, 9, 12};
        static final int[] FIRST = {0, 3, 0, 10, 60, 0, -1, 999, 1, 0, 1, 0};

        final int[] told = new int[MOST_STRAWS * OF_A_STRAW + OF_THE_GLASS];
        int straws;

        Numbers() {
            for (int what = MELTS; what <= HICCUPS; what++) {
                told[glassPlace(what)] = FIRST[what];
            }
        }

        static boolean fits(int what, int v) {
            return what >= 0 && what <= HICCUPS && v >= LEAST[what] && v <= MOST[what];
        }

        /** The number of the new straw, or FULL. */
        int add(int strong, int wide, int reach) {
            if (straws >= MOST_STRAWS) {
                return FULL;
            }
            int base = straws * OF_A_STRAW;
            System.arraycopy(FIRST, 0, told, base, OF_A_STRAW);
            told[base + STRONG] = strong;
            told[base + WIDE] = wide;
            told[base + REACH] = reach;
            straws++;
            return straws - 1;
        }

        /** Where a number stands, or -1. */
        int place(int number, int what) {
            if (what < 0 || what > HICCUPS) {
                return -1;
            }
            if (what >= MELTS) {
                return number == 0 ? glassPlace(what) : -1;
            }
            return number >= 0 && number < straws ? number * OF_A_STRAW + what : -1;
        }

        /** Only for straws and numbers that are there. */
        int ofStraw(int number, int what) {
            return told[number * OF_A_STRAW + what];
        }

        /** Only for MELTS to HICCUPS. */
        int ofGlass(int what) {
            return told[glassPlace(what)];
        }

        private static int glassPlace(int what) {
            return MOST_STRAWS * OF_A_STRAW + what - MELTS;
        }

        /** Whether a straw draws in second s; a free one never stops. */
        boolean isDrawing(int number, int s, boolean free) {
            int base = number * OF_A_STRAW;
            if (!free && s >= told[base + STOPS]) {
                return false;
            }
            int every = told[base + EVERY];
            int round = every + told[base + RESTS];
            return round > 0 && s % round < every;
        }

        int sweetness(int number) {
            return ofStraw(number, REACH) < ofGlass(SUGARED) ? 1 + ofGlass(SUGAR) : 1;
        }

        int lowestReach() {
            int lowest = MOST_LEVEL;
            for (int k = 0; k < straws; k++) {
                lowest = Math.min(lowest, ofStraw(k, REACH));
            }
            return lowest;
        }
    }

    /** A law's lines as they are worked out: parts in the order of a stack, each a condition or an amount. */
    static final class Text {
        static final int NEGATE = -7, REFUSE = -8, TIMES = -9, OVER = -10, REMAINDER = -11, PLUS = -12, MINUS = -13;
        static final int BELOW = -14, SAME = -15, ABOVE = -16, BOTH_HOLD = -17, ONE_HOLDS = -18;
        static final int LAST_NAME = -6;

        /** A number 0 .. 9999, a name (-1 less its place among the names), or one of the signs above. */
        final int[] code = new int[Tape.MOST_BYTES];
        final int[] ends = new int[Tape.MOST_BYTES];
        final boolean[] asks = new boolean[Tape.MOST_BYTES];
        int size;
        int parts;

        void clear() {
            size = 0;
            parts = 0;
        }

        /** Each byte of a tape gives at most one of these, so none is lost. */
        void add(int op) {
            if (size < code.length) {
                code[size] = op;
                size++;
            }
        }

        void endPart(boolean asked) {
            if (parts < ends.length) {
                ends[parts] = size;
                asks[parts] = asked;
                parts++;
            }
        }
    }

    /** The bytes that are fed, and the reading of them as a law. */
    static final class Tape {
        static final int MOST_BYTES = 120, MOST_OPEN = 6, MOST_DIGITS = 4;
        private static final int RANKS = 5, RANK_COMPARING = 2;

        final int[] bytes = new int[MOST_BYTES];
        int length;
        Text text = new Text();
        private int place;

        boolean add(int letter) {
            if (length >= MOST_BYTES) {
                return false;
            }
            bytes[length] = letter;
            length++;
            return true;
        }

        /** The place of the fault, or -1: then text holds what was read. */
        int read() {
            place = 0;
            text.clear();
            for (int lines = 0; lines <= MOST_BYTES; lines++) {
                if (!readLine()) {
                    return place;
                }
                if (place >= length) {
                    return -1;
                }
                if (!passes(';')) {
                    return place;
                }
            }
            return place;
        }

        private int next() {
            return place < length ? bytes[place] : -1;
        }

        private boolean passes(int sign) {
            if (next() != sign) {
                return false;
            }
            place++;
            return true;
        }

        private boolean readLine() {
            if (!readJoined(0, 0)) {
                return false;
            }
            if (!passes('?')) {
                text.endPart(false);
                return true;
            }
            text.endPart(true);
            if (!readJoined(0, 0)) {
                return false;
            }
            text.endPart(false);
            return true;
        }

        /** What signs of that rank join, a comparison only once; behind the last rank come single ones. */
        private boolean readJoined(int rank, int open) {
            if (rank >= RANKS) {
                return readOne(open);
            }
            boolean read = readJoined(rank + 1, open);
            int most = rank == RANK_COMPARING ? 1 : MOST_BYTES;
            for (int i = 0; i < most && read; i++) {
                int op = joining(next(), rank);
                if (op == 0) {
                    return true;
                }
                place++;
                read = readJoined(rank + 1, open);
                text.add(op);
            }
            return read;
        }

        private boolean readOne(int open) {
            int sign = next();
            if (isDigit(sign)) {
                readNumber();
                return true;
            }
            int name = naming(sign);
            if (name >= 0) {
                place++;
                text.add(-1 - name);
                return true;
            }
            if (sign != '(' && sign != '!' && sign != '-' || open >= MOST_OPEN) {
                return false;
            }
            place++;
            if (sign == '(') {
                return readJoined(0, open + 1) && passes(')');
            }
            boolean read = readOne(open + 1);
            text.add(sign == '!' ? Text.REFUSE : Text.NEGATE);
            return read;
        }

        private void readNumber() {
            int v = 0;
            for (int i = 0; i < MOST_DIGITS && isDigit(next()); i++) {
                v = v * 10 + next() - '0';
                place++;
            }
            text.add(v);
        }

        private static boolean isDigit(int sign) {
            return sign >= '0' && sign <= '9';
        }

        /** The place among the law's names, or -1. */
        private static int naming(int sign) {
            switch (sign) {
                case 'p': return Law.NAME_STRONG;
                case 'w': return Law.NAME_WIDE;
                case 't': return Law.NAME_TRIED;
                case 'l': return Law.NAME_LEVEL;
                case 'd': return Law.NAME_DEPTH;
                case 'k': return Law.NAME_STRAW;
                default: return -1;
            }
        }

        /** The sign's part in a text, or 0 where it joins nothing of that rank. */
        private static int joining(int sign, int rank) {
            switch (rank) {
                case 0: return sign == '|' ? Text.ONE_HOLDS : 0;
                case 1: return sign == '&' ? Text.BOTH_HOLD : 0;
                case RANK_COMPARING: return sign == '<' ? Text.BELOW : sign == '=' ? Text.SAME : sign == '>' ? Text.ABOVE : 0;
                case 3: return sign == '+' ? Text.PLUS : sign == '-' ? Text.MINUS : 0;
                default: return sign == '*' ? Text.TIMES : sign == '/' ? Text.OVER : sign == '%' ? Text.REMAINDER : 0;
            }
        }
    }

    /** How much a straw wants: by the text, or without one as the document says. */
    static final class Law {
        static final int NAME_STRONG = 0, NAME_WIDE = 1, NAME_TRIED = 2, NAME_LEVEL = 3, NAME_DEPTH = 4, NAME_STRAW = 5;
        static final int MOST_WANTED = 99;

        Text text = new Text();
        private final Numbers numbers;
        private final int[] names = new int[6];
        private final int[] stack = new int[Tape.MOST_BYTES];

        Law(Numbers numbers) {
            this.numbers = numbers;
        }

        int want(int straw, int l, int t) {
            if (text.parts == 0) {
                return held(plain(straw, t));
            }
            setNames(straw, l, t);
            boolean counts = true;
            int from = 0;
            for (int part = 0; part < text.parts; part++) {
                int to = text.ends[part];
                if (text.asks[part]) {
                    counts = workedOut(from, to) != 0;
                } else if (counts) {
                    return held(workedOut(from, to));
                } else {
                    counts = true;
                }
                from = to;
            }
            return 0;
        }

        private static int held(int asked) {
            return Math.max(0, Math.min(MOST_WANTED, asked));
        }

        private int plain(int straw, int t) {
            int strength = numbers.ofStraw(straw, STRONG) * numbers.ofStraw(straw, WIDE) / 3;
            int tires = numbers.ofStraw(straw, TIRES);
            return tires > 0 ? strength - t / tires : strength;
        }

        private void setNames(int straw, int l, int t) {
            names[NAME_STRONG] = numbers.ofStraw(straw, STRONG);
            names[NAME_WIDE] = numbers.ofStraw(straw, WIDE);
            names[NAME_TRIED] = t;
            names[NAME_LEVEL] = l;
            names[NAME_DEPTH] = l - numbers.ofStraw(straw, REACH);
            names[NAME_STRAW] = straw;
        }

        /** What a part of the code leaves on the stack. */
        private int workedOut(int from, int to) {
            int[] code = text.code;
            int top = -1;
            for (int at = from; at < to; at++) {
                int op = code[at];
                if (op >= Text.LAST_NAME) {
                    top++;
                    if (top >= stack.length) {
                        return 0;
                    }
                    stack[top] = op >= 0 ? op : names[-1 - op];
                } else if (op >= Text.REFUSE) {
                    if (top < 0) {
                        return 0;
                    }
                    stack[top] = op == Text.NEGATE ? -stack[top] : stack[top] == 0 ? 1 : 0;
                } else {
                    top--;
                    if (top < 0) {
                        return 0;
                    }
                    stack[top] = joined(op, stack[top], stack[top + 1]);
                }
            }
            return top < 0 ? 0 : stack[top];
        }

        private static int joined(int op, int a, int b) {
            switch (op) {
                case Text.TIMES: return a * b;
                case Text.OVER: return b == 0 ? 0 : a / b;
                case Text.REMAINDER: return b == 0 ? 0 : a % b;
                case Text.PLUS: return a + b;
                case Text.MINUS: return a - b;
                case Text.BELOW: return a < b ? 1 : 0;
                case Text.SAME: return a == b ? 1 : 0;
                case Text.ABOVE: return a > b ? 1 : 0;
                case Text.BOTH_HOLD: return a != 0 && b != 0 ? 1 : 0;
                case Text.ONE_HOLDS: return a != 0 || b != 0 ? 1 : 0;
                default: return 0;
            }
        }
    }

    /** A glass at some second, and what each straw had of it. */
    static final class Glass {
        int level = 200;
        int ice;
        int s;
        int seconds;
        int fills;
        final int[] tried = new int[MOST_STRAWS];
        final int[] got = new int[MOST_STRAWS];
        final int[] sweet = new int[MOST_STRAWS];
        final int[] noises = new int[MOST_STRAWS];
        private final int[] wanted = new int[MOST_STRAWS];
        private final Numbers numbers;
        private final Law law;

        Glass(Numbers numbers, Law law) {
            this.numbers = numbers;
            this.law = law;
        }

        void copy(Glass from) {
            begin(from);
            seconds = from.seconds;
            fills = from.fills;
            for (int k = 0; k < MOST_STRAWS; k++) {
                got[k] = from.got[k];
                sweet[k] = from.sweet[k];
                noises[k] = from.noises[k];
            }
        }

        /** As the other one stands, with nothing got from it yet. */
        void begin(Glass from) {
            level = from.level;
            ice = from.ice;
            s = from.s;
            for (int k = 0; k < MOST_STRAWS; k++) {
                tried[k] = from.tried[k];
                got[k] = 0;
                sweet[k] = 0;
                noises[k] = 0;
            }
        }

        void refill(int v) {
            level = v;
            s = 0;
            fills++;
            for (int k = 0; k < MOST_STRAWS; k++) {
                tried[k] = 0;
            }
        }

        /** GOT, SWEET or NOISES of a straw that is there. */
        int tells(int straw, int what) {
            switch (what) {
                case 0: return got[straw];
                case 1: return sweet[straw];
                default: return noises[straw];
            }
        }

        /** One second, in which the bits say who takes part, who never stops and who hiccups. */
        void pass(int who, int free, int hiccups) {
            int all = 0;
            for (int k = 0; k < numbers.straws; k++) {
                int bit = 1 << k;
                wanted[k] = 0;
                if ((who & bit) != 0 && numbers.isDrawing(k, s, (free & bit) != 0)) {
                    wanted[k] = tries(k, (hiccups & bit) != 0);
                    all += wanted[k];
                }
            }
            if (all > 0) {
                share(all);
            }
            melt();
            s++;
        }

        private int tries(int k, boolean hiccups) {
            int t = tried[k];
            tried[k] = t + 1;
            if (hiccups) {
                return 0;
            }
            int depth = level - numbers.ofStraw(k, REACH);
            if (depth <= 0) {
                noises[k]++;
                return 0;
            }
            int want = law.want(k, level, t);
            if (level < numbers.ofStraw(k, HOLE)) {
                want /= 2;
            }
            return Math.min(want, depth);
        }

        private void share(int all) {
            int whole = level;
            for (int k = 0; k < numbers.straws; k++) {
                int part = wanted[k];
                if (all > whole) {
                    part = part * whole / all;
                }
                got[k] += part;
                sweet[k] += part * numbers.sweetness(k);
                level -= part;
            }
        }

        private void melt() {
            if (ice > 0) {
                int melted = Math.min(Math.min(numbers.ofGlass(MELTS), ice), MOST_LEVEL - level);
                level += melted;
                ice -= melted;
            }
        }

        /** Whether nobody can get any more. */
        boolean isOver() {
            if (ice > 0) {
                return false;
            }
            for (int k = 0; k < numbers.straws; k++) {
                if (s < numbers.ofStraw(k, STOPS) && level > numbers.ofStraw(k, REACH)) {
                    return false;
                }
            }
            return true;
        }

        /** The straw that got most, the least of like ones; 0 without straws. */
        int mostGot() {
            int most = 0;
            for (int k = 1; k < numbers.straws; k++) {
                if (got[k] > got[most]) {
                    most = k;
                }
            }
            return most;
        }

        int leastGot() {
            int least = got[0];
            for (int k = 1; k < numbers.straws; k++) {
                least = Math.min(least, got[k]);
            }
            return least;
        }
    }

    /** What would be, from the glass as it stands now on. */
    static final class Thoughts {
        static final int EVERYBODY = 7;
        private static final int STRENGTHS = 21;

        /** What the number that bestNumber() found gives. */
        int gain;
        private final Numbers numbers;
        private final Glass now;
        private final Glass thought;
        private final Glass branch;
        private final int[] byLevel = new int[MOST_LEVEL + 1];
        private final int[] firstGot = new int[STRENGTHS * STRENGTHS];
        private final int[] secondGot = new int[STRENGTHS * STRENGTHS];

        Thoughts(Numbers numbers, Law law, Glass now) {
            this.numbers = numbers;
            this.now = now;
            thought = new Glass(numbers, law);
            branch = new Glass(numbers, law);
        }

        Glass after(int n) {
            thought.begin(now);
            for (int i = 0; i < n; i++) {
                thought.pass(EVERYBODY, 0, 0);
            }
            return thought;
        }

        /** As after(), but only what was got and how sweet counts: it ends where nothing is left to get. */
        private Glass drunk(int n) {
            int lowest = numbers.lowestReach();
            thought.begin(now);
            for (int i = 0; i < n && (thought.ice > 0 || thought.level > lowest); i++) {
                thought.pass(EVERYBODY, 0, 0);
            }
            return thought;
        }

        int emptyBehind() {
            thought.begin(now);
            for (int i = 0; i < MOST_SECONDS; i++) {
                if (thought.isOver()) {
                    return i;
                }
                thought.pass(EVERYBODY, 0, 0);
            }
            return thought.isOver() ? MOST_SECONDS : NOT;
        }

        Glass byTurns(int n, int m, int first) {
            thought.begin(now);
            int straws = numbers.straws;
            if (m > 0 && straws > 0) {
                for (int i = 0; i < n; i++) {
                    int alone = 1 << (first + i / m) % straws;
                    thought.pass(alone, alone, 0);
                }
            }
            return thought;
        }

        int leastMark(int a, int b) {
            int least = now.level;
            thought.begin(now);
            for (int i = 1; i <= LONG_THOUGHT; i++) {
                thought.pass(1 << a, 1 << a, 0);
                if (thought.level < least && thought.got[a] <= gotBehind(b, LONG_THOUGHT - i)) {
                    least = thought.level;
                }
            }
            return least;
        }

        /** What a straw gets alone in n seconds behind the thought. */
        private int gotBehind(int straw, int n) {
            branch.begin(thought);
            for (int i = 0; i < n; i++) {
                branch.pass(1 << straw, 1 << straw, 0);
            }
            return branch.got[straw];
        }

        /** The first glass's level (what 0), what a (1), what b (2) gets. */
        int halved(int a, int b, int what) {
            int whole = Math.min(MOST_LEVEL, now.level);
            for (int x = 0; x <= whole; x++) {
                byLevel[x] = gotFromGlass(b, x);
            }
            int reach = numbers.ofStraw(a, REACH);
            int first = 0;
            int most = -1;
            for (int x = 0; x <= whole; x++) {
                int left = byLevel[x] >= byLevel[whole - x] ? whole - x : x;
                if (Math.max(0, left - reach) > most) {
                    int got = gotFromGlass(a, left);
                    if (got > most) {
                        most = got;
                        first = x;
                    }
                }
            }
            switch (what) {
                case 0: return first;
                case 1: return most;
                default: return Math.max(byLevel[first], byLevel[whole - first]);
            }
        }

        /** What a straw gets alone, without ice, from a glass of that level. */
        private int gotFromGlass(int straw, int level) {
            int reach = numbers.ofStraw(straw, REACH);
            thought.begin(now);
            thought.level = level;
            thought.ice = 0;
            for (int i = 0; i < SHORT_THOUGHT && thought.level > reach; i++) {
                thought.pass(1 << straw, 1 << straw, 0);
            }
            return thought.got[straw];
        }

        /** The least value 0 .. most of a straw's number by which it gets most, and that as gain. */
        int bestNumber(int straw, int what, int most, int n, boolean bySweet) {
            int place = numbers.place(straw, what);
            gain = -1;
            if (place < 0) {
                return 0;
            }
            int was = numbers.told[place];
            int best = 0;
            for (int v = 0; v <= most && (what != REACH || gain < mostAbove(v, bySweet)); v++) {
                numbers.told[place] = v;
                int gained = drunk(n).tells(straw, bySweet ? 1 : 0);
                if (gained > gain) {
                    gain = gained;
                    best = v;
                }
            }
            numbers.told[place] = was;
            return best;
        }

        /** No straw gets more than all there is less its reach: once that is had, no higher reach needs a try. */
        private int mostAbove(int reach, boolean bySweet) {
            int above = Math.max(0, now.level + now.ice - reach);
            return bySweet ? above * (1 + numbers.ofGlass(SUGAR)) : above;
        }

        int together(int n) {
            int first = numbers.ofStraw(0, STRONG);
            int second = numbers.ofStraw(1, STRONG);
            int best = 0;
            int most = -1;
            for (int i = 0; i <= first; i++) {
                for (int j = 0; j <= second; j++) {
                    setStrengths(i, j);
                    Glass then = drunk(n);
                    int sweet = then.sweet[0] + then.sweet[1];
                    if (sweet > most) {
                        most = sweet;
                        best = 100 * i + j;
                    }
                }
            }
            setStrengths(first, second);
            return best;
        }

        int selfish(int n) {
            int first = Math.min(STRENGTHS - 1, numbers.ofStraw(0, STRONG));
            int second = Math.min(STRENGTHS - 1, numbers.ofStraw(1, STRONG));
            for (int i = 0; i <= first; i++) {
                for (int j = 0; j <= second; j++) {
                    setStrengths(i, j);
                    Glass then = drunk(n);
                    firstGot[i * STRENGTHS + j] = then.got[0];
                    secondGot[i * STRENGTHS + j] = then.got[1];
                }
            }
            setStrengths(first, second);
            for (int i = 0; i <= first; i++) {
                for (int j = 0; j <= second; j++) {
                    if (isContent(i, j, first, second)) {
                        return 100 * i + j;
                    }
                }
            }
            return NOT;
        }

        private void setStrengths(int first, int second) {
            numbers.told[STRONG] = first;
            numbers.told[OF_A_STRAW + STRONG] = second;
        }

        private boolean isContent(int i, int j, int first, int second) {
            for (int other = 0; other <= first; other++) {
                if (firstGot[other * STRENGTHS + j] > firstGot[i * STRENGTHS + j]) {
                    return false;
                }
            }
            for (int other = 0; other <= second; other++) {
                if (secondGot[i * STRENGTHS + other] > secondGot[i * STRENGTHS + j]) {
                    return false;
                }
            }
            return true;
        }

        int othersGot(int straw, int hole, int n) {
            int place = numbers.place(straw, HOLE);
            if (place < 0) {
                return 0;
            }
            int was = numbers.told[place];
            numbers.told[place] = hole;
            drunk(n);
            numbers.told[place] = was;
            int all = 0;
            for (int k = 0; k < numbers.straws; k++) {
                if (k != straw) {
                    all += thought.got[k];
                }
            }
            return all;
        }

        /** The second behind the last one in which a straw that never stops gets any; 0, if none. */
        int lastGain(int straw) {
            int last = 0;
            thought.begin(now);
            for (int i = 0; i < LONG_THOUGHT; i++) {
                int before = thought.got[straw];
                thought.pass(EVERYBODY, 1 << straw, 0);
                if (thought.got[straw] > before) {
                    last = thought.s;
                }
            }
            return last;
        }

        /** The place of the first ring that is not so, if those bits drew; NOT. */
        int firstUnlike(Shelf rings, int who) {
            thought.begin(now);
            for (int i = 0; i < rings.size; i++) {
                thought.pass(who, 0, 0);
                if (rings.elements[i] != thought.level) {
                    return i;
                }
            }
            return NOT;
        }

        int setsThatFit(Shelf rings) {
            int fit = 0;
            for (int who = 0; who < 1 << numbers.straws; who++) {
                if (firstUnlike(rings, who) == NOT) {
                    fit++;
                }
            }
            return fit;
        }

        int leastSet(Shelf rings) {
            for (int who = 0; who < 1 << numbers.straws; who++) {
                if (firstUnlike(rings, who) == NOT) {
                    return who;
                }
            }
            return NOT;
        }

        int stoppedBehind(Shelf rings, int straw) {
            int place = numbers.place(straw, STOPS);
            if (place < 0) {
                return NOT;
            }
            int was = numbers.told[place];
            int found = NOT;
            for (int k = 0; k <= rings.size && found == NOT; k++) {
                numbers.told[place] = now.s + k;
                if (firstUnlike(rings, EVERYBODY) == NOT) {
                    found = k;
                }
            }
            numbers.told[place] = was;
            return found;
        }

        /** What a straw gets of n glasses with hiccups by a seed; -1: what is left in them. */
        int hiccupped(int seed, int n, int straw) {
            int limit = numbers.ofGlass(HICCUPS);
            int z = seed;
            int sum = 0;
            for (int glass = 0; glass < n; glass++) {
                thought.begin(now);
                for (int i = 0; i < SHORT_THOUGHT; i++) {
                    int hiccups = 0;
                    for (int k = 0; k < numbers.straws; k++) {
                        z = z * 1103515245 + 12345;
                        if ((z >>> 8) % 12 < limit) {
                            hiccups |= 1 << k;
                        }
                    }
                    thought.pass(EVERYBODY, 0, hiccups);
                }
                sum += straw < 0 ? thought.level : thought.got[straw];
            }
            return sum;
        }
    }

    /** The latest changes, the first `done` of which stand. */
    static final class Changes {
        static final int MOST_KEPT = 40;

        int made;
        int done;
        private final int[] places = new int[MOST_KEPT];
        private final int[] before = new int[MOST_KEPT];
        private final int[] behind = new int[MOST_KEPT];

        void note(int place, int was, int v) {
            if (done >= MOST_KEPT) {
                forgetOldest();
            }
            places[done] = place;
            before[done] = was;
            behind[done] = v;
            done++;
            made = done;
        }

        private void forgetOldest() {
            System.arraycopy(places, 1, places, 0, MOST_KEPT - 1);
            System.arraycopy(before, 1, before, 0, MOST_KEPT - 1);
            System.arraycopy(behind, 1, behind, 0, MOST_KEPT - 1);
            done = MOST_KEPT - 1;
        }

        boolean takeBack(int[] told) {
            if (done <= 0) {
                return false;
            }
            done--;
            told[places[done]] = before[done];
            return true;
        }

        boolean doAgain(int[] told) {
            if (done >= made) {
                return false;
            }
            told[places[done]] = behind[done];
            done++;
            return true;
        }
    }

    /** The sips, whose acts are looked for from their own kind upwards. */
    static final class Sips {
        static final int KINDS = 8, MOST_SIPS = 50, MOST_TRACED = 24;
        private static final int DRAWS = 0, GETS = 1, RESTING = 2, TELLING = 3, ACTS = 4;
        private static final int MOST_DEEP = 40;

        private static final int[] ABOVE = {-1, 0, 0, 2, 1, 3, 0, 4};

        /** A kind's own bodies by act, 0 where it has none; the interfaces of the first kind stand with it. */
        private static final int[] OWN = {
            1, 10, 11, 2,
            20, 0, 0, 0,
            0, 30, 0, 0,
            0, 41, 40, 0,
            0, 0, 50, 0,
            0, 0, 0, 60,
            70, 0, 0, 0,
            0, 80, 0, 81,
        };

        int size;
        int ran;
        private final int[] kinds = new int[MOST_SIPS];
        private final int[] latest = new int[MOST_TRACED];

        /** The number of the new sip, or FULL. */
        int add(int kind) {
            if (size >= MOST_SIPS) {
                return FULL;
            }
            kinds[size] = kind;
            size++;
            return size - 1;
        }

        boolean has(int sip) {
            return sip >= 0 && sip < size;
        }

        int kindOf(int sip) {
            return has(sip) ? kinds[sip] : 0;
        }

        static boolean isUnder(int kind, int above) {
            int k = kind;
            for (int i = 0; i < KINDS && k >= 0 && k < KINDS; i++) {
                if (k == above) {
                    return true;
                }
                k = ABOVE[k];
            }
            return false;
        }

        int traced(int i) {
            return i >= 0 && i < ran && i < MOST_TRACED ? latest[i] : BAD;
        }

        int begin(int sip, int act, int x) {
            ran = 0;
            if (!has(sip) || act < 0 || act >= ACTS) {
                return 0;
            }
            return run(sip, kinds[sip], act, x, 0);
        }

        /** Runs the act's body of that kind, or of the next kind above that has one. */
        private int run(int n, int kind, int act, int x, int depth) {
            int at = ownerOf(kind, act);
            if (at < 0 || depth > MOST_DEEP) {
                return 0;
            }
            int body = OWN[at * ACTS + act];
            note(body);
            int own = kinds[n];
            int up = ABOVE[at];
            int d = depth + 1;
            switch (body) {
                case 1: return x + n;
                case 2: return run(n, own, GETS, x, d) - run(n, own, RESTING, 1, d);
                case 10: return run(n, own, DRAWS, x, d) * 2;
                case 11: return x ^ n;
                case 20: return run(n, up, DRAWS, x, d) + 3;
                case 30: return -run(n, up, GETS, x, d);
                case 40: return run(n, up, RESTING, x, d) * 3;
                case 41: return run(n, up, GETS, x + 1, d);
                case 50: return run(n, up, RESTING, x, d) - run(n, own, DRAWS, 2, d);
                case 60: return run(n, up, TELLING, x, d) ^ 5;
                case 70: return run(n, up, DRAWS, x, d) * 2;
                case 80: return run(n, up, GETS, x, d) + run(n, own, RESTING, 2, d);
                case 81: return run(n, up, TELLING, x, d) - 1;
                default: return 0;
            }
        }

        private static int ownerOf(int kind, int act) {
            int k = kind;
            for (int i = 0; i < KINDS && k >= 0 && k < KINDS; i++) {
                if (OWN[k * ACTS + act] != 0) {
                    return k;
                }
                k = ABOVE[k];
            }
            return -1;
        }

        private void note(int body) {
            if (ran < MOST_TRACED) {
                latest[ran] = body;
            }
            ran++;
        }
    }

    /** Nothing, a sip, or a row; the row is made once and used for every sort. */
    static final class Shelf {
        int sort = HOLDS_NOTHING;
        int size;
        int sip;
        final long[] elements = new long[MOST_ELEMENTS];

        void clear() {
            sort = HOLDS_NOTHING;
            size = 0;
        }

        void holdSip(int number) {
            sort = HOLDS_SIP;
            size = 0;
            sip = number;
        }

        void holdRow(int newSort, int n) {
            sort = newSort;
            size = n;
            for (int i = 0; i < MOST_ELEMENTS; i++) {
                elements[i] = 0;
            }
        }

        /** Whether n elements from i on are there; no sum, for it could wrap. */
        boolean hasPlaces(int i, int n) {
            return i >= 0 && n >= 0 && i <= size && n <= size - i;
        }

        static long cut(int sort, long v) {
            switch (sort) {
                case SORT_BYTES: return (byte) v;
                case SORT_SHORTS: return (short) v;
                case SORT_INTS: return (int) v;
                case SORT_BOOLEANS: return v != 0 ? 1 : 0;
                default: return v;
            }
        }
    }
}
