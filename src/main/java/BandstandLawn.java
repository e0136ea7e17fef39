import java.util.Arrays;

/** A lawn into which a tune has soaked; ../shared/DOC.md tells what each call answers. */
public final class BandstandLawn {
    public static final int NONE = -1;

    private static final int NOT = -2;

    private static final int MOST_BYTES = 2000;
    private static final int BYTES_FED = 20;
    private static final int MOST_TOKENS = 400;
    private static final int MOST_IFS = 4;
    private static final int MOST_NESTED = 6;
    private static final int MOST_SIDE = 5;
    private static final int MOST_CELLS = 25;
    private static final int MOST_TUNES = 8;
    private static final int MOST_GOERS = 5;
    private static final int MOST_ROPES = 8;
    private static final int MOST_BEATS = 100;
    private static final int MOST_SEEDS = 20;
    private static final int MOST_TOLD = 20;
    private static final int MOST_UNDONE = 40;
    private static final int SLOTS = 3;
    private static final int DEAREST = 99;

    private static final int LEAST_BEAT = 2;
    private static final int LONGEST_BEAT = 6;
    /** Every BEAT divides it: what sounds comes round again behind so many. */
    private static final int ROUND = 60;

    private static final int SYNTAX = 1;
    private static final int ROOM = 2;
    private static final int TWICE = 3;
    private static final int WRONG = 5;
    private static final int LAWN = 6;

    private static final int STEPS = 0;
    private static final int MOVES = 1;
    private static final int SPREADS = 2;
    private static final int COSTS = 3;
    private static final int LAWS = 4;
    private static final int VARS = 9;

    private final byte[] tape = new byte[MOST_BYTES];
    private int taped = 0;
    private int faultPlace = NONE;
    private final Reader reader = new Reader(tape);

    private final Band band = new Band();
    private final Field field = band.field;
    private final Scene now = new Scene();
    private final Scene trial = new Scene();

    private final Past past = new Past();
    private final Scene[] slots = new Scene[SLOTS];
    private int heldSlots = 0;

    private final Ear ear = new Ear();
    private final Ways ways = new Ways(field);
    private final Cut cut = new Cut(field);
    private final Pairing pairing = new Pairing(field);

    public BandstandLawn() {
        for (int i = 0; i < SLOTS; i++) {
            slots[i] = new Scene();
        }
        band.clear();
    }

    // ---- the tape

    public int feed(int a, int b, int c, int d, int e) {
        if (taped + BYTES_FED > MOST_BYTES) {
            return NONE;
        }
        putOnTape(a);
        putOnTape(b);
        putOnTape(c);
        putOnTape(d);
        putOnTape(e);
        return taped;
    }

    private void putOnTape(int four) {
        for (int shift = 24; shift >= 0 && taped < MOST_BYTES; shift -= 8) {
            tape[taped] = (byte) (four >>> shift);
            taped++;
        }
    }

    public int back(int n) {
        if (n < 0 || n > taped) {
            return NONE;
        }
        taped -= n;
        return taped;
    }

    public int read() {
        int fault = reader.readText(taped);
        taped = 0;
        faultPlace = fault == 0 ? NONE : reader.faultAt;
        if (fault == 0) {
            band.become(reader.draft);
            now.become(reader.first);
            past.clear();
            ear.clear();
            heldSlots = 0;
        }
        return fault;
    }

    public int place() {
        return faultPlace;
    }

    // ---- what is

    public int cell(int cell, int what) {
        if (!field.has(cell)) {
            return NONE;
        }
        boolean tuned = now.isTuned(cell);
        switch (what) {
            case 0:
                return tuned ? now.beatOf(cell) : NOT;
            case 1:
                return tuned ? now.offsetOf(cell) : NOT;
            case 2:
                return now.soundsAt(cell, now.time) ? 1 : 0;
            case 3:
                return now.isRoped(cell) ? 1 : 0;
            case 4:
                return now.goersIn(cell, band.goers);
            case 5:
                return band.costOf(now, cell);
            default:
                return NONE;
        }
    }

    public int goer(int goer, int what) {
        if (!band.hasGoer(goer)) {
            return NONE;
        }
        switch (what) {
            case 0:
                return now.at[goer];
            case 1:
                return now.moved[goer];
            case 2:
                return band.whereTo(now, STEPS, goer);
            case 3:
                return band.whereTo(now, MOVES, goer);
            default:
                return NONE;
        }
    }

    public int count(int what) {
        switch (what) {
            case 0: return field.wide;
            case 1: return field.high;
            case 2: return band.goers;
            case 3: return now.time;
            case 4: return now.paid;
            case 5: return now.tuned;
            case 6: return now.ropes;
            case 7: return now.stoodOn(band.goers);
            case 8: return taped;
            case 9: return past.size;
            case 10: return ear.size;
            case 11: return Integer.bitCount(heldSlots);
            case 12: return now.loudAt(now.time);
            case 13: return movedInAll();
            case 14: return Integer.bitCount(now.tuned);
            case 15: return costsOfTunes();
            case 16: return field.all & ~(now.tuned | now.ropes | now.stoodOn(band.goers));
            case 17: return Integer.bitCount(now.ropes);
            case 18: return everMoved();
            case 19: return band.wet;
            default: return NONE;
        }
    }

    private int movedInAll() {
        int sum = 0;
        for (int goer = 0; goer < band.goers && goer < MOST_GOERS; goer++) {
            sum += now.moved[goer];
        }
        return sum;
    }

    private int everMoved() {
        int bits = 0;
        for (int goer = 0; goer < band.goers && goer < MOST_GOERS; goer++) {
            if (now.moved[goer] > 0) {
                bits |= 1 << goer;
            }
        }
        return bits;
    }

    private int costsOfTunes() {
        int sum = 0;
        for (int cell = 0; cell < MOST_CELLS; cell++) {
            if (now.isTuned(cell)) {
                sum += band.costOf(now, cell);
            }
        }
        return sum;
    }

    // ---- what is done by hand

    public int mow(int cell) {
        if (!field.has(cell) || !now.isTuned(cell)) {
            return NONE;
        }
        past.keep(now);
        int cost = band.costOf(now, cell);
        now.paid += cost;
        now.hush(cell);
        return cost;
    }

    public boolean rope(int cell, boolean off) {
        if (!field.has(cell) || now.isRoped(cell) == off || now.goersIn(cell, band.goers) != 0) {
            return false;
        }
        if (off && now.isTuned(cell)) {
            return false;
        }
        past.keep(now);
        now.ropes ^= 1 << cell;
        return true;
    }

    public boolean carry(int goer, int cell) {
        if (!band.hasGoer(goer) || !field.has(cell)) {
            return false;
        }
        if (now.at[goer] == cell || now.isRoped(cell)) {
            return false;
        }
        past.keep(now);
        now.at[goer] = cell;
        return true;
    }

    public int beats(int n) {
        if (!isSpan(n)) {
            return NONE;
        }
        if (n > 0) {
            past.keep(now);
            band.goOn(now, n);
        }
        return now.time;
    }

    public boolean undo() {
        return past.takeBack(now);
    }

    public boolean hold(int slot) {
        if (slot < 0 || slot >= SLOTS) {
            return false;
        }
        slots[slot].become(now);
        heldSlots |= 1 << slot;
        return true;
    }

    public boolean restore(int slot) {
        if (slot < 0 || slot >= SLOTS || (heldSlots >>> slot & 1) == 0) {
            return false;
        }
        now.become(slots[slot]);
        past.clear();
        return true;
    }

    private static boolean isSpan(int n) {
        return n >= 0 && n <= MOST_BEATS;
    }

    private static boolean isNoughtOrOne(int what) {
        return what == 0 || what == 1;
    }

    // ---- what sounds when

    public int next(int cell) {
        if (!field.has(cell)) {
            return NONE;
        }
        for (int n = 1; n <= LONGEST_BEAT; n++) {
            if (now.soundsAt(cell, now.time + n)) {
                return n;
            }
        }
        return NOT;
    }

    public int together(int cell, int other) {
        if (!field.has(cell) || !field.has(other)) {
            return NONE;
        }
        for (int n = 0; n < ROUND; n++) {
            if (now.soundsAt(cell, now.time + n) && now.soundsAt(other, now.time + n)) {
                return n;
            }
        }
        return NOT;
    }

    public int loud(int n) {
        return isSpan(n) ? now.loudAt(now.time + n) : NONE;
    }

    public int silence(int what) {
        if (!isNoughtOrOne(what)) {
            return NONE;
        }
        int longest = 0;
        int begin = NOT;
        int run = 0;
        for (int n = 0; n < ROUND; n++) {
            run = now.loudAt(now.time + n) == 0 ? run + 1 : 0;
            if (run > longest) {
                longest = run;
                begin = n + 1 - run;
            }
        }
        return what == 0 ? longest : begin;
    }

    public int chorus(int what) {
        if (!isNoughtOrOne(what)) {
            return NONE;
        }
        int most = NONE;
        int when = 0;
        for (int n = 0; n < ROUND; n++) {
            int voices = Integer.bitCount(now.loudAt(now.time + n));
            if (voices > most) {
                most = voices;
                when = n;
            }
        }
        return what == 0 ? when : most;
    }

    public int period() {
        for (int n = 1; n < ROUND; n++) {
            if (now.allTunesDivide(n)) {
                return n;
            }
        }
        return ROUND;
    }

    // ---- ways that nothing moves

    public int way(int from, int to, int i) {
        if (!isFree(from) || !isFree(to)) {
            return NONE;
        }
        ways.look(now);
        int length = ways.fewest(from, to, now.time, 0, MOST_BEATS);
        if (length == NONE) {
            return NOT;
        }
        if (i == NONE) {
            return length;
        }
        return i < 0 || i > length ? NONE : ways.cellOnWay(from, to, length, i);
    }

    public int leave(int from, int to, int what) {
        if (!isFree(from) || !isFree(to) || !isNoughtOrOne(what)) {
            return NONE;
        }
        ways.look(now);
        int wait = ways.bestWait(from, to);
        if (wait == NONE) {
            return NOT;
        }
        return what == 0 ? wait : ways.fewest(from, to, now.time + wait, 0, MOST_BEATS);
    }

    public int mows(int from, int to, int n, int what) {
        if (!isFree(from) || !isFree(to) || !isSpan(n) || !isNoughtOrOne(what)) {
            return NONE;
        }
        ways.look(now);
        int mown = ways.fewestMown(from, to, n, now.tuned);
        if (mown == NONE) {
            return NOT;
        }
        return what == 0 ? Integer.bitCount(mown) : mown;
    }

    public int meet(int goer, int other, int what) {
        if (!band.hasGoer(goer) || !band.hasGoer(other) || !isNoughtOrOne(what)) {
            return NONE;
        }
        ways.look(now);
        if (!ways.findMeeting(now.at[goer], now.at[other])) {
            return NOT;
        }
        return what == 0 ? ways.metBehind : ways.metIn;
    }

    public int part(int from, int to) {
        if (!isFree(from) || !isFree(to)) {
            return NONE;
        }
        if ((field.grown(1 << from) >>> to & 1) != 0) {
            return NOT;
        }
        return cut.fewestRopes(field.all & ~now.ropes, from, to);
    }

    public int far(int from, int to) {
        if (!field.has(from) || !field.has(to)) {
            return NONE;
        }
        int steps = field.steps(from, to, field.all & ~now.ropes | 1 << to);
        return steps == NONE ? NOT : steps;
    }

    public int centre(int what) {
        if (!isNoughtOrOne(what)) {
            return NONE;
        }
        int open = field.all & ~now.ropes;
        int centre = NOT;
        int least = NOT;
        for (int cell = 0; cell < MOST_CELLS; cell++) {
            if ((open >>> cell & 1) != 0) {
                int farthest = field.farthest(cell, open);
                if (centre == NOT || farthest < least) {
                    centre = cell;
                    least = farthest;
                }
            }
        }
        return what == 0 ? centre : least;
    }

    private boolean isFree(int cell) {
        return field.has(cell) && !now.isRoped(cell);
    }

    // ---- where all go

    public int returns(int goer) {
        if (!band.hasGoer(goer)) {
            return NONE;
        }
        trial.become(now);
        for (int n = 1; n <= MOST_BEATS; n++) {
            band.walk(trial);
            if (trial.at[goer] == now.at[goer]) {
                return n;
            }
        }
        return NOT;
    }

    public int never(int n) {
        if (!isSpan(n)) {
            return NONE;
        }
        trial.become(now);
        int stoodOn = trial.stoodOn(band.goers);
        for (int i = 1; i <= n; i++) {
            band.walk(trial);
            stoodOn |= trial.stoodOn(band.goers);
        }
        return field.all & ~stoodOn;
    }

    public int stood(int goer, int cell, int n) {
        if (!band.hasGoer(goer) || !field.has(cell) || !isSpan(n)) {
            return NONE;
        }
        trial.become(now);
        int often = trial.at[goer] == cell ? 1 : 0;
        for (int i = 1; i <= n; i++) {
            band.walk(trial);
            if (trial.at[goer] == cell) {
                often++;
            }
        }
        return often;
    }

    public int then(int goer, int n, int what) {
        if (!band.hasGoer(goer) || !isSpan(n) || !isNoughtOrOne(what)) {
            return NONE;
        }
        trial.become(now);
        band.goOn(trial, n);
        return what == 0 ? trial.at[goer] : trial.moved[goer];
    }

    public int tunesIn(int n) {
        if (!isSpan(n)) {
            return NONE;
        }
        trial.become(now);
        band.soak(trial, n, band.seed);
        return trial.tuned;
    }

    public int year(int cell, int n, int s) {
        if (!field.has(cell) || !isSpan(n) || s < 1 || s > MOST_SEEDS) {
            return NONE;
        }
        int often = 0;
        for (int i = 0; i < s; i++) {
            trial.become(now);
            band.soak(trial, n, band.seed + i);
            if (trial.isTuned(cell)) {
                often++;
            }
        }
        return often;
    }

    public int pairs(int i) {
        if (i != NONE && !band.hasGoer(i)) {
            return NONE;
        }
        pairing.match(now, band.goers);
        return i == NONE ? pairing.least : pairing.best[i];
    }

    // ---- what is told

    public int tell(int time, boolean sounds) {
        return ear.keep(time, sounds);
    }

    public int forget() {
        int told = ear.size;
        ear.clear();
        return told;
    }

    public int fits(int k, int what) {
        if (!ear.knows(k) || !isNoughtOrOne(what)) {
            return NONE;
        }
        int fitting = ear.fitting(k);
        return what == 0 ? Integer.bitCount(fitting) : Ear.firstTune(fitting);
    }

    public int listen(int k) {
        return ear.knows(k) ? Ear.bestTime(ear.fitting(k)) : NONE;
    }

    private static int lowest(int bits) {
        return Integer.bitCount((bits & -bits) - 1);
    }

    /** How wide and high it is, and which cell is beside which; sets of cells are bits. */
    private static final class Field {
        int wide = 0;
        int high = 0;
        int all = 0;
        private int leftEdge = 0;

        void lay(int newWide, int newHigh) {
            wide = newWide;
            high = newHigh;
            leftEdge = 0;
            for (int y = 0; y < high; y++) {
                leftEdge |= 1 << wide * y;
            }
            all = (1 << wide * high) - 1;
        }

        boolean has(int cell) {
            return cell >= 0 && cell < wide * high;
        }

        int leftOf(int cell) {
            return wide > 0 ? cell % wide : 0;
        }

        int topOf(int cell) {
            return wide > 0 ? cell / wide : 0;
        }

        /** These cells and all beside them. */
        int grown(int cells) {
            int right = cells << 1 & ~leftEdge;
            int left = (cells & ~leftEdge) >>> 1;
            return (cells | right | left | cells << wide | cells >>> wide) & all;
        }

        /** Which of these cells have one on their right that is none of them. */
        int quietOnTheRight(int cells) {
            int rightOnes = all & ~leftEdge & ~cells;
            return cells & rightOnes >>> 1;
        }

        /** The cell that lies one WAY on; the same one where it leads off the lawn. */
        int beside(int cell, int wayOn) {
            int left = leftOf(cell);
            int top = topOf(cell);
            switch (wayOn) {
                case 1:
                    return left + 1 < wide ? cell + 1 : cell;
                case 2:
                    return top + 1 < high ? cell + wide : cell;
                case 3:
                    return left > 0 ? cell - 1 : cell;
                case 4:
                    return top > 0 ? cell - wide : cell;
                default:
                    return cell;
            }
        }

        /** The fewest steps by open cells, NONE without. */
        int steps(int from, int to, int open) {
            int reached = 1 << from;
            for (int n = 0; n <= MOST_CELLS; n++) {
                if ((reached >>> to & 1) != 0) {
                    return n;
                }
                reached |= grown(reached) & open;
            }
            return NONE;
        }

        /** How far the farthest open cell is; one that can not be reached counts as many as there can be. */
        int farthest(int from, int open) {
            int reached = 1 << from;
            for (int n = 0; n < MOST_CELLS; n++) {
                if ((open & ~reached) == 0) {
                    return n;
                }
                reached |= grown(reached) & open;
            }
            return MOST_CELLS;
        }

        void become(Field other) {
            wide = other.wide;
            high = other.high;
            all = other.all;
            leftEdge = other.leftEdge;
        }
    }

    /** All that goes on: what can be undone, held, gone on from. */
    private static final class Scene {
        int time = 0;
        int paid = 0;
        int ropes = 0;
        int tuned = 0;
        /** 8 * BEAT + OFFSET, of a cell without a TUNE nothing that is looked at. */
        private final byte[] tunes = new byte[MOST_CELLS];
        final int[] at = new int[MOST_GOERS];
        final int[] moved = new int[MOST_GOERS];

        void clear() {
            time = 0;
            paid = 0;
            ropes = 0;
            tuned = 0;
            Arrays.fill(moved, 0);
        }

        void become(Scene other) {
            time = other.time;
            paid = other.paid;
            ropes = other.ropes;
            tuned = other.tuned;
            System.arraycopy(other.tunes, 0, tunes, 0, MOST_CELLS);
            System.arraycopy(other.at, 0, at, 0, MOST_GOERS);
            System.arraycopy(other.moved, 0, moved, 0, MOST_GOERS);
        }

        boolean isTuned(int cell) {
            return cell >= 0 && cell < MOST_CELLS && (tuned >>> cell & 1) != 0;
        }

        boolean isRoped(int cell) {
            return (ropes >>> cell & 1) != 0;
        }

        /** 0 without a TUNE, as the laws' beat is. */
        int beatOf(int cell) {
            return isTuned(cell) ? tunes[cell] >> 3 : 0;
        }

        int offsetOf(int cell) {
            return isTuned(cell) ? tunes[cell] & 7 : 0;
        }

        void soundIn(int cell, int beat, int offset) {
            if (cell >= 0 && cell < MOST_CELLS) {
                tunes[cell] = (byte) (8 * beat + offset);
                tuned |= 1 << cell;
            }
        }

        /** The TUNE of the cell to the left, one later. */
        void soundFromTheLeft(int cell) {
            int beat = beatOf(cell - 1);
            if (beat > 0) {
                soundIn(cell, beat, (offsetOf(cell - 1) + 1) % beat);
            }
        }

        void hush(int cell) {
            tuned &= ~(1 << cell);
        }

        boolean soundsAt(int cell, int when) {
            int beat = beatOf(cell);
            return beat > 0 && when % beat == offsetOf(cell);
        }

        int loudAt(int when) {
            int bits = 0;
            for (int i = 0, rest = tuned; i < MOST_CELLS && rest != 0; i++, rest &= rest - 1) {
                if (soundsAt(lowest(rest), when)) {
                    bits |= rest & -rest;
                }
            }
            return bits;
        }

        boolean allTunesDivide(int n) {
            for (int i = 0, rest = tuned; i < MOST_CELLS && rest != 0; i++, rest &= rest - 1) {
                int beat = beatOf(lowest(rest));
                if (beat > 0 && n % beat != 0) {
                    return false;
                }
            }
            return true;
        }

        int goersIn(int cell, int goers) {
            int bits = 0;
            for (int goer = 0; goer < goers && goer < MOST_GOERS; goer++) {
                if (at[goer] == cell) {
                    bits |= 1 << goer;
                }
            }
            return bits;
        }

        int stoodOn(int goers) {
            int bits = 0;
            for (int goer = 0; goer < goers && goer < MOST_GOERS; goer++) {
                bits |= 1 << at[goer];
            }
            return bits;
        }
    }

    /** The laws of a text, each a row of orders to a stack, all in one array. */
    private static final class Laws {
        /** A number that is not below 0 is put on the stack; -1 - v puts the v-th VAR there. */
        static final int LAST_VAR = -9;
        static final int ADD = -10;
        static final int SUBTRACT = -11;
        static final int MULTIPLY = -12;
        static final int DIVIDE = -13;
        /** Goes on behind the number next to it if the one is less, else at the order of that number. */
        static final int LESS = -14;
        static final int END = -15;

        /** No order without a TOKEN of its own, but for the four of the laws that are not told. */
        private static final int MOST_ORDERS = MOST_TOKENS + 4;
        /** Two for each ( and for none, one ahead of <, one more. */
        private static final int MOST_STACKED = 2 * MOST_NESTED + 4;

        private final int[] orders = new int[MOST_ORDERS];
        private final int[] starts = new int[LAWS];
        private final int[] stack = new int[MOST_STACKED];
        private int size = 0;

        void clear() {
            size = 0;
            begin(STEPS);
            begin(SPREADS);
            add(0);
            add(END);
            begin(MOVES);
            begin(COSTS);
            add(1);
            add(END);
        }

        void become(Laws other) {
            size = other.size;
            System.arraycopy(other.orders, 0, orders, 0, MOST_ORDERS);
            System.arraycopy(other.starts, 0, starts, 0, LAWS);
        }

        void begin(int law) {
            if (law >= 0 && law < LAWS) {
                starts[law] = size;
            }
        }

        void add(int order) {
            if (size < MOST_ORDERS) {
                orders[size] = order;
                size++;
            }
        }

        /** Leaves room for where to go on; answers where that room is. */
        int addLess() {
            add(LESS);
            add(0);
            return size - 1;
        }

        void elseHere(int room) {
            if (room >= 0 && room < MOST_ORDERS) {
                orders[room] = size;
            }
        }

        int value(int law, int[] asked) {
            int depth = 0;
            int next = law >= 0 && law < LAWS ? starts[law] : size;
            for (int i = 0; i < MOST_ORDERS && next >= 0 && next < size; i++) {
                int order = orders[next];
                next++;
                if (order >= LAST_VAR) {
                    if (depth >= MOST_STACKED || -1 - order >= asked.length) {
                        return 0;
                    }
                    stack[depth] = order >= 0 ? order : asked[-1 - order];
                    depth++;
                } else if (order == END) {
                    return depth == 1 ? stack[0] : 0;
                } else {
                    if (depth < 2) {
                        return 0;
                    }
                    depth--;
                    int one = stack[depth - 1];
                    int other = stack[depth];
                    if (order == LESS) {
                        depth--;
                        next = one < other ? next + 1 : elseOf(next);
                    } else if (order == DIVIDE && other == 0) {
                        return 0;
                    } else {
                        stack[depth - 1] = reckon(order, one, other);
                    }
                }
            }
            return 0;
        }

        /** Where it goes on if a < does not hold. */
        private int elseOf(int room) {
            return room >= 0 && room < size ? orders[room] : size;
        }

        private static int reckon(int order, int one, int other) {
            switch (order) {
                case ADD:
                    return one + other;
                case SUBTRACT:
                    return one - other;
                case MULTIPLY:
                    return one * other;
                case DIVIDE:
                    return other == 0 ? 0 : one / other;
                default:
                    return 0;
            }
        }
    }

    /** What a text tells for good, and how it all goes on by that. */
    private static final class Band {
        final Field field = new Field();
        final Laws laws = new Laws();
        int goers = 0;
        int wet = 0;
        int seed = 0;
        private final int[] asked = new int[VARS];

        void clear() {
            field.lay(4, 4);
            laws.clear();
            goers = 0;
            wet = 0;
            seed = 0;
        }

        void become(Band other) {
            field.become(other.field);
            laws.become(other.laws);
            goers = other.goers;
            wet = other.wet;
            seed = other.seed;
        }

        boolean hasGoer(int goer) {
            return goer >= 0 && goer < goers && goer < MOST_GOERS;
        }

        private int ask(Scene scene, int law, int cell, int moved, int which) {
            asked[0] = field.leftOf(cell);
            asked[1] = field.topOf(cell);
            asked[2] = scene.time;
            asked[3] = scene.beatOf(cell);
            asked[4] = moved;
            asked[5] = which;
            asked[6] = field.wide;
            asked[7] = field.high;
            asked[8] = Integer.bitCount(scene.tuned);
            return laws.value(law, asked);
        }

        int costOf(Scene scene, int cell) {
            return Math.max(0, Math.min(DEAREST, ask(scene, COSTS, cell, 0, 0)));
        }

        /** The cell to which a GOER's WAY by a law leads. */
        int whereTo(Scene scene, int law, int goer) {
            if (!hasGoer(goer)) {
                return NONE;
            }
            int cell = scene.at[goer];
            int told = Math.max(0, ask(scene, law, cell, scene.moved[goer], goer));
            int to = field.beside(cell, told % 5);
            return scene.isRoped(to) ? cell : to;
        }

        /** A BEAT without the spreading. A GOER's way hangs on no other's, so they go one by one. */
        void walk(Scene scene) {
            for (int goer = 0; goer < goers && goer < MOST_GOERS; goer++) {
                scene.at[goer] = whereTo(scene, STEPS, goer);
            }
            scene.time++;
            for (int goer = 0; goer < goers && goer < MOST_GOERS; goer++) {
                if (scene.soundsAt(scene.at[goer], scene.time)) {
                    scene.at[goer] = whereTo(scene, MOVES, goer);
                    scene.moved[goer]++;
                }
            }
        }

        void goOn(Scene scene, int n) {
            for (int i = 0; i < n; i++) {
                walk(scene);
                spread(scene, seed);
            }
        }

        /** BEATS of which the TUNES alone are looked at: no GOER has a hand in where they spread, none goes. */
        void soak(Scene scene, int n, int bySeed) {
            for (int i = 0; i < n && canSpread(scene); i++) {
                scene.time++;
                spread(scene, bySeed);
            }
        }

        private boolean canSpread(Scene scene) {
            return wet > 0 && field.quietOnTheRight(scene.tuned) != 0
                    && Integer.bitCount(scene.tuned) < MOST_TUNES;
        }

        /** The scene's own set of tuned cells stays as it was till the end, as the laws are to see it. */
        private void spread(Scene scene, int bySeed) {
            int room = MOST_TUNES - Integer.bitCount(scene.tuned);
            int reached = 0;
            int rest = field.quietOnTheRight(scene.tuned);
            for (int i = 0; i < MOST_CELLS && rest != 0 && room > 0; i++, rest &= rest - 1) {
                int cell = lowest(rest);
                if (isWet(scene.time, cell, bySeed) && ask(scene, SPREADS, cell, 0, 0) > 0) {
                    reached |= 1 << cell + 1;
                    room--;
                }
            }
            for (int i = 0; i < MOST_CELLS && reached != 0; i++, reached &= reached - 1) {
                scene.soundFromTheLeft(lowest(reached));
            }
        }

        private boolean isWet(int time, int cell, int bySeed) {
            return lot(100, bySeed, 32 * time + cell) < wet;
        }

        private static int lot(int n, int bySeed, int which) {
            int h = stirred(stirred(bySeed, 197), which);
            return n > 0 ? (h >>> 1) % n : 0;
        }

        private static int stirred(int h, int by) {
            int mixed = (h ^ by) * 1103515245 + 12345;
            return mixed ^ mixed >>> 15;
        }
    }

    /** The TOKENS of the tape, all but those that no text can come to. */
    private static final class Tokens {
        /** A word's number is the kind of its TOKEN; the VARS come first, in the order of what is asked. */
        private static final String WORDS =
                "left top time beat moved which wide high tunes lawn tune goer rope steps moves spreads costs wet seed if then else ";
        static final int LAWN_WORD = 9;
        static final int TUNE_WORD = 10;
        static final int GOER_WORD = 11;
        static final int ROPE_WORD = 12;
        static final int STEPS_WORD = 13;
        static final int COSTS_WORD = 16;
        static final int WET_WORD = 17;
        static final int SEED_WORD = 18;
        static final int IF_WORD = 19;
        static final int THEN_WORD = 20;
        static final int ELSE_WORD = 21;
        private static final int MOST_WORDS = 22;

        /** Between the words and the signs, whose kind is their own byte. */
        static final int INT = 30;
        static final int NAME = 31;
        static final int TEXT_END = 32;
        static final int NO_TOKEN = 33;

        private static final int MOST_LETTERS = 8;
        private static final int MOST_DIGITS = 4;
        /** One more than a text has: at that one it has a FAULT, or its end. */
        private static final int MOST_KEPT = MOST_TOKENS + 1;

        private final byte[] tape;
        private final long[] words = new long[MOST_WORDS];
        private final byte[] kinds = new byte[MOST_KEPT];
        private final short[] starts = new short[MOST_KEPT];
        /** The number of an INT; the letters of a NAME, five bits each. */
        private final long[] values = new long[MOST_KEPT];
        private int kept = 0;
        private int length = 0;

        Tokens(byte[] itsTape) {
            tape = itsTape;
            int word = 0;
            for (int i = 0; i < WORDS.length() && word < MOST_WORDS; i++) {
                if (WORDS.charAt(i) == ' ') {
                    word++;
                } else {
                    words[word] = withLetter(words[word], WORDS.charAt(i));
                }
            }
        }

        private static long withLetter(long letters, int letter) {
            return letters * 32 + (letter - 'a' + 1);
        }

        int kindOf(int token) {
            return token >= 0 && token < kept ? kinds[token] : TEXT_END;
        }

        int placeOf(int token) {
            return token >= 0 && token < kept ? starts[token] : length;
        }

        long valueOf(int token) {
            return token >= 0 && token < kept ? values[token] : 0;
        }

        void scan(int newLength) {
            length = Math.max(0, Math.min(newLength, tape.length));
            kept = 0;
            int at = behindBlanks(0);
            for (int i = 0; i < MOST_KEPT && at < length; i++) {
                at = behindBlanks(keep(at));
            }
        }

        /** Answers where the one that is kept ends. */
        private int keep(int start) {
            int end = start + 1;
            int kind = NO_TOKEN;
            long value = 0;
            int sign = signAt(start);
            if (isLetter(sign)) {
                end = behindLetters(start);
                value = lettersOf(start, end);
                kind = end - start > MOST_LETTERS ? NO_TOKEN : kindOfLetters(value);
            } else if (isDigit(sign)) {
                end = behindDigits(start);
                value = numberOf(start, end);
                kind = end - start > MOST_DIGITS ? NO_TOKEN : INT;
            } else if (isSign(sign)) {
                kind = sign;
            }
            if (kept < MOST_KEPT) {
                kinds[kept] = (byte) kind;
                starts[kept] = (short) start;
                values[kept] = value;
                kept++;
            }
            return end;
        }

        /** 0, which is in no TOKEN, beyond the tape. */
        private int signAt(int i) {
            return i >= 0 && i < length && i < tape.length ? tape[i] & 255 : 0;
        }

        private int behindBlanks(int from) {
            int end = from;
            while (end < length && isBlank(signAt(end))) {
                end++;
            }
            return end;
        }

        private int behindLetters(int from) {
            int end = from;
            while (end < length && isLetter(signAt(end))) {
                end++;
            }
            return end;
        }

        private int behindDigits(int from) {
            int end = from;
            while (end < length && isDigit(signAt(end))) {
                end++;
            }
            return end;
        }

        private long lettersOf(int start, int end) {
            long letters = 0;
            for (int i = start; i < end; i++) {
                letters = withLetter(letters, signAt(i));
            }
            return letters;
        }

        private int kindOfLetters(long letters) {
            for (int word = 0; word < MOST_WORDS; word++) {
                if (words[word] == letters) {
                    return word;
                }
            }
            return NAME;
        }

        private int numberOf(int start, int end) {
            int number = 0;
            for (int i = start; i < end; i++) {
                number = 10 * number + (signAt(i) - '0');
            }
            return number;
        }

        private static boolean isBlank(int sign) {
            return sign == 9 || sign == 10 || sign == 13 || sign == 32;
        }

        private static boolean isLetter(int sign) {
            return sign >= 'a' && sign <= 'z';
        }

        private static boolean isDigit(int sign) {
            return sign >= '0' && sign <= '9';
        }

        private static boolean isSign(int sign) {
            switch (sign) {
                case ';':
                case '=':
                case '+':
                case '-':
                case '*':
                case '/':
                case '<':
                case '(':
                case ')':
                    return true;
                default:
                    return false;
            }
        }
    }

    /** Reads a text into a draft of its own, so that one with a fault changes nothing. */
    private static final class Reader {
        /** Cells are kept by 5 * Y + X until the text's end: only the last lawn told counts. */
        private static final int SPOTS = MOST_SIDE * MOST_SIDE;

        final Band draft = new Band();
        final Scene first = new Scene();
        int faultAt = NONE;

        private final Tokens tokens;
        private int taken = 0;
        private int fault = 0;
        private int laterFault = 0;
        private int laterPlace = NONE;

        private final long[] names = new long[MOST_GOERS];
        private final int[] goerSpots = new int[MOST_GOERS];
        private final int[] spotBeats = new int[SPOTS];
        private final int[] spotOffsets = new int[SPOTS];
        private int ropedSpots = 0;
        private int tunesTold = 0;
        private int ropesTold = 0;

        Reader(byte[] tape) {
            tokens = new Tokens(tape);
        }

        /** Answers the number of the FAULT, 0 without; then draft and first hold what is told. */
        int readText(int length) {
            clear();
            tokens.scan(length);
            for (int i = 0; i <= MOST_TOKENS && fault == 0 && kind() != Tokens.TEXT_END; i++) {
                readTell(kind());
            }
            if (fault != 0) {
                faultAt = tokens.placeOf(taken);
                return fault;
            }
            layOut(length);
            faultAt = laterPlace;
            return laterFault;
        }

        private void clear() {
            draft.clear();
            first.clear();
            faultAt = NONE;
            taken = 0;
            fault = 0;
            laterFault = 0;
            laterPlace = NONE;
            Arrays.fill(spotBeats, 0);
            ropedSpots = 0;
            tunesTold = 0;
            ropesTold = 0;
        }

        private int kind() {
            return tokens.kindOf(taken);
        }

        /** At the TOKEN that is to be taken next; the first one stands, as the text is read in order. */
        private void stop(int number) {
            if (fault == 0) {
                fault = number;
            }
        }

        /** A FAULT that counts only if no SYNTAX, no ROOM comes up to the text's end. */
        private void blame(int number, int at) {
            if (laterFault == 0) {
                laterFault = number;
                laterPlace = at;
            }
        }

        /** Goes on by a TOKEN if it is of this kind; of SYNTAX and ROOM at one place SYNTAX is due. */
        private boolean take(int kind) {
            if (tokens.kindOf(taken) != kind) {
                stop(SYNTAX);
            } else if (taken >= MOST_TOKENS) {
                stop(ROOM);
            }
            if (fault == 0) {
                taken++;
            }
            return fault == 0;
        }

        private void readTell(int word) {
            switch (word) {
                case Tokens.LAWN_WORD:
                    readLawn();
                    break;
                case Tokens.TUNE_WORD:
                    readTune();
                    break;
                case Tokens.GOER_WORD:
                    readGoer();
                    break;
                case Tokens.ROPE_WORD:
                    readRope();
                    break;
                case Tokens.WET_WORD:
                    take(word);
                    draft.wet = takeNumber(0, 100);
                    break;
                case Tokens.SEED_WORD:
                    take(word);
                    draft.seed = takeNumber(0, 9999);
                    break;
                default:
                    if (word < Tokens.STEPS_WORD || word > Tokens.COSTS_WORD) {
                        stop(SYNTAX);
                        return;
                    }
                    take(word);
                    readLaw(word - Tokens.STEPS_WORD);
            }
            take(';');
        }

        /** Answers a number within the bounds even where the text's is not, so that it can be counted on. */
        private int takeNumber(int least, int most) {
            int number = (int) tokens.valueOf(taken);
            int at = tokens.placeOf(taken);
            if (!take(Tokens.INT)) {
                return least;
            }
            if (number < least || number > most) {
                blame(WRONG, at);
            }
            return Math.max(least, Math.min(most, number));
        }

        private int takeSpot() {
            int x = takeNumber(0, MOST_SIDE - 1);
            return x + MOST_SIDE * takeNumber(0, MOST_SIDE - 1);
        }

        private void readLawn() {
            take(Tokens.LAWN_WORD);
            int wide = takeNumber(2, MOST_SIDE);
            draft.field.lay(wide, takeNumber(2, MOST_SIDE));
        }

        private void readTune() {
            if (tunesTold >= MOST_TUNES) {
                stop(ROOM);
            }
            tunesTold++;
            take(Tokens.TUNE_WORD);
            int spot = takeSpot();
            int beat = takeNumber(LEAST_BEAT, LONGEST_BEAT);
            int offset = takeNumber(0, beat - 1);
            if (spot >= 0 && spot < SPOTS) {
                spotBeats[spot] = beat;
                spotOffsets[spot] = offset;
            }
        }

        private void readGoer() {
            int goer = draft.goers;
            if (goer >= MOST_GOERS) {
                stop(ROOM);
                return;
            }
            take(Tokens.GOER_WORD);
            names[goer] = tokens.valueOf(taken);
            int at = tokens.placeOf(taken);
            take(Tokens.NAME);
            for (int other = 0; other < goer; other++) {
                if (names[other] == names[goer]) {
                    blame(TWICE, at);
                }
            }
            goerSpots[goer] = takeSpot();
            draft.goers++;
        }

        private void readRope() {
            if (ropesTold >= MOST_ROPES) {
                stop(ROOM);
            }
            ropesTold++;
            take(Tokens.ROPE_WORD);
            ropedSpots |= 1 << takeSpot();
        }

        private void readLaw(int law) {
            take('=');
            draft.laws.begin(law);
            for (int ifs = 0; fault == 0 && kind() == Tokens.IF_WORD && ifs <= MOST_IFS; ifs++) {
                if (ifs >= MOST_IFS) {
                    stop(ROOM);
                }
                take(Tokens.IF_WORD);
                readSum(0);
                take('<');
                readSum(0);
                take(Tokens.THEN_WORD);
                int room = draft.laws.addLess();
                readSum(0);
                take(Tokens.ELSE_WORD);
                draft.laws.add(Laws.END);
                draft.laws.elseHere(room);
            }
            readSum(0);
            draft.laws.add(Laws.END);
        }

        /** A + or - is put down only where its right side ends: * and / bind that first. */
        private void readSum(int nested) {
            int waiting = 0;
            readUnit(nested);
            for (int i = 0; i <= MOST_TOKENS && fault == 0; i++) {
                int sign = kind();
                if (sign == '*' || sign == '/') {
                    take(sign);
                    readUnit(nested);
                    draft.laws.add(sign == '*' ? Laws.MULTIPLY : Laws.DIVIDE);
                } else {
                    if (waiting != 0) {
                        draft.laws.add(waiting == '+' ? Laws.ADD : Laws.SUBTRACT);
                    }
                    if (sign != '+' && sign != '-') {
                        return;
                    }
                    waiting = sign;
                    take(sign);
                    readUnit(nested);
                }
            }
        }

        private void readUnit(int nested) {
            int unit = kind();
            if (unit == Tokens.INT) {
                draft.laws.add((int) tokens.valueOf(taken));
                take(unit);
            } else if (unit >= 0 && unit < VARS) {
                draft.laws.add(-1 - unit);
                take(unit);
            } else if (unit != '(') {
                stop(SYNTAX);
            } else {
                if (nested >= MOST_NESTED) {
                    stop(ROOM);
                }
                if (take(unit)) {
                    readSum(nested + 1);
                    take(')');
                }
            }
        }

        /** Puts what was told onto the lawn, if it all lies there. */
        private void layOut(int textEnd) {
            for (int spot = 0; spot < SPOTS; spot++) {
                boolean roped = (ropedSpots >>> spot & 1) != 0;
                boolean tuned = spotBeats[spot] > 0;
                if ((roped || tuned) && !onLawn(spot)) {
                    blame(LAWN, textEnd);
                } else if (roped) {
                    first.ropes |= 1 << cellOf(spot);
                }
                if (tuned) {
                    first.soundIn(cellOf(spot), spotBeats[spot], spotOffsets[spot]);
                }
            }
            for (int goer = 0; goer < draft.goers && goer < MOST_GOERS; goer++) {
                int spot = goerSpots[goer];
                if (!onLawn(spot) || (ropedSpots >>> spot & 1) != 0) {
                    blame(LAWN, textEnd);
                }
                first.at[goer] = cellOf(spot);
            }
        }

        private boolean onLawn(int spot) {
            return spot % MOST_SIDE < draft.field.wide && spot / MOST_SIDE < draft.field.high;
        }

        private int cellOf(int spot) {
            return draft.field.wide * (spot / MOST_SIDE) + spot % MOST_SIDE;
        }
    }

    /** Where one can be when, in no cell that sounds; all from the scene looked at last. */
    private static final class Ways {
        private final Field field;
        private final int[] loudCells = new int[ROUND];
        private final int[] ahead = new int[MOST_BEATS + 1];
        private int open = 0;
        private int begin = 0;
        int metBehind = NONE;
        int metIn = NONE;

        Ways(Field itsField) {
            field = itsField;
        }

        void look(Scene scene) {
            open = field.all & ~scene.ropes;
            begin = scene.time;
            Arrays.fill(loudCells, 0);
            for (int i = 0, rest = scene.tuned; i < MOST_CELLS && rest != 0; i++, rest &= rest - 1) {
                int cell = lowest(rest);
                int beat = scene.beatOf(cell);
                for (int when = scene.offsetOf(cell); when < ROUND && beat > 0; when += beat) {
                    loudCells[when] |= 1 << cell;
                }
            }
        }

        /** The cells in which one may be at a time. */
        private int quietAt(int when, int mown) {
            return open & ~(loudCells[Math.floorMod(when, ROUND)] & ~mown);
        }

        private int onwards(int cells, int when, int mown) {
            return field.grown(cells) & quietAt(when, mown);
        }

        /** The fewest BEATS of a PATH begun at a time, NONE if there are more than the most. */
        int fewest(int from, int to, int start, int mown, int most) {
            int cells = 1 << from;
            for (int n = 0; n <= most && cells != 0; n++) {
                if ((cells >>> to & 1) != 0) {
                    return n;
                }
                cells = onwards(cells, start + n + 1, mown);
            }
            return NONE;
        }

        int cellOnWay(int from, int to, int length, int behind) {
            lookBack(to, length);
            int cell = from;
            for (int n = 1; n <= behind && n <= length && n <= MOST_BEATS; n++) {
                cell = lowest(onwards(1 << cell, begin + n, 0) & ahead[n]);
            }
            return cell;
        }

        /** ahead[n]: from where one still comes there in time, behind n BEATS. */
        private void lookBack(int to, int length) {
            int cells = 1 << to;
            for (int n = Math.min(length, MOST_BEATS); n >= 0; n--) {
                ahead[n] = cells;
                cells = field.grown(cells & quietAt(begin + n, 0));
            }
        }

        /** Behind how many BEATS to begin; NONE if no way is there. */
        int bestWait(int from, int to) {
            int wait = NONE;
            int most = MOST_BEATS;
            for (int n = 0; n < ROUND; n++) {
                int length = fewest(from, to, begin + n, 0, most);
                if (length != NONE) {
                    wait = n;
                    most = length - 1;
                }
            }
            return wait;
        }

        /** The cells to be mown, NONE if all are not enough. */
        int fewestMown(int from, int to, int most, int tuned) {
            if (fewest(from, to, begin, tuned, most) == NONE) {
                return NONE;
            }
            for (int few = 0; few < Integer.bitCount(tuned); few++) {
                int mown = mownBy(few, from, to, most, tuned);
                if (mown != NONE) {
                    return mown;
                }
            }
            return tuned;
        }

        /** Of the sets of just so many cells the first that is enough: they come by their bits, the least first. */
        private int mownBy(int few, int from, int to, int most, int tuned) {
            int mown = 0;
            for (int i = 0; i < 1 << MOST_TUNES && mown != tuned; i++) {
                if (Integer.bitCount(mown) == few && fewest(from, to, begin, mown, most) != NONE) {
                    return mown;
                }
                mown = mown - tuned & tuned;
            }
            return NONE;
        }

        boolean findMeeting(int from, int other) {
            int cells = 1 << from;
            int others = 1 << other;
            for (int n = 0; n <= MOST_BEATS; n++) {
                if ((cells & others) != 0) {
                    metBehind = n;
                    metIn = lowest(cells & others);
                    return true;
                }
                cells = onwards(cells, begin + n + 1, 0);
                others = onwards(others, begin + n + 1, 0);
            }
            return false;
        }
    }

    /**
     * The fewest ropes that part two cells are as many as there are ways between them that share no
     * cell (Menger); each search lays one way more, and may lead a way laid before elsewhere.
     */
    private static final class Cut {
        private static final int MOST_WAYS = 4;

        private final Field field;
        /** The cell ahead of a cell on the way that goes through it, NONE if none does. */
        private final int[] ahead = new int[MOST_CELLS];
        /** Of each cell, its entry (2 * cell) and its exit (one more): the one it was found from, or NONE. */
        private final int[] foundFrom = new int[2 * MOST_CELLS];
        private final int[] queue = new int[2 * MOST_CELLS];
        private int queued = 0;

        Cut(Field itsField) {
            field = itsField;
        }

        int fewestRopes(int open, int from, int to) {
            Arrays.fill(ahead, NONE);
            int found = 0;
            for (int i = 0; i < MOST_WAYS && search(open, from, to); i++) {
                layWay(from, to);
                found++;
            }
            return found;
        }

        private boolean search(int open, int from, int to) {
            Arrays.fill(foundFrom, NONE);
            queued = 0;
            find(2 * from + 1, 2 * from + 1);
            for (int i = 0; i < queued && i < 2 * MOST_CELLS; i++) {
                int cell = queue[i] >> 1;
                if (queue[i] == 2 * to) {
                    return true;
                }
                if ((queue[i] & 1) == 0) {
                    leadOnFromEntry(cell);
                } else {
                    leadOnFromExit(cell, open & ~(1 << from));
                }
            }
            return false;
        }

        private void find(int node, int from) {
            if (node >= 0 && node < 2 * MOST_CELLS && foundFrom[node] == NONE && queued < 2 * MOST_CELLS) {
                foundFrom[node] = from;
                queue[queued] = node;
                queued++;
            }
        }

        /** Into a cell on a way: only back, along that way. */
        private void leadOnFromEntry(int cell) {
            int before = ahead[cell];
            find(before == NONE ? 2 * cell + 1 : 2 * before + 1, 2 * cell);
        }

        /** The exit of a cell on a way is found from the entry behind it alone: never from the goal's. */
        private void leadOnFromExit(int cell, int open) {
            int beside = field.grown(1 << cell) & open & ~(1 << cell);
            for (int other = 0; other < MOST_CELLS; other++) {
                if ((beside >>> other & 1) != 0 && ahead[other] != cell) {
                    find(2 * other, 2 * cell + 1);
                }
            }
            if (ahead[cell] != NONE) {
                find(2 * cell, 2 * cell + 1);
            }
        }

        private void layWay(int from, int to) {
            int node = 2 * to;
            for (int i = 0; i < 2 * MOST_CELLS && node != 2 * from + 1; i++) {
                int before = foundFrom[node];
                if (before < 0) {
                    return;
                }
                int cell = node >> 1;
                if ((node & 1) == 0 && cell != to) {
                    ahead[cell] = before >> 1 == cell ? NONE : before >> 1;
                }
                node = before;
            }
        }
    }

    /** As many pairs as can be, tried in the order in which alike ones are to be taken. */
    private static final class Pairing {
        private final Field field;
        private final int[] tried = new int[MOST_GOERS];
        final int[] best = new int[MOST_GOERS];
        int least = 0;

        Pairing(Field itsField) {
            field = itsField;
        }

        void match(Scene scene, int goers) {
            least = NONE;
            pairOff(scene, (1 << goers) - 1, 0, 0);
        }

        private void pairOff(Scene scene, int single, int sum, int depth) {
            int goer = lowest(single);
            if (single == 0 || goer >= MOST_GOERS || depth > MOST_GOERS) {
                keepIfLess(sum);
                return;
            }
            int rest = single & ~(1 << goer);
            for (int other = goer + 1; other < MOST_GOERS; other++) {
                if ((rest >>> other & 1) != 0) {
                    tried[goer] = other;
                    tried[other] = goer;
                    int apart = distance(scene.at[goer], scene.at[other]);
                    pairOff(scene, rest & ~(1 << other), sum + apart, depth + 1);
                }
            }
            if ((Integer.bitCount(single) & 1) != 0) {
                tried[goer] = NOT;
                pairOff(scene, rest, sum, depth + 1);
            }
        }

        private void keepIfLess(int sum) {
            if (least == NONE || sum < least) {
                least = sum;
                System.arraycopy(tried, 0, best, 0, MOST_GOERS);
            }
        }

        private int distance(int cell, int other) {
            return Math.abs(field.leftOf(cell) - field.leftOf(other))
                    + Math.abs(field.topOf(cell) - field.topOf(other));
        }
    }

    /** The things done that can be undone: how it was ahead of each, the oldest falling out. */
    private static final class Past {
        private final Scene[] scenes = new Scene[MOST_UNDONE];
        private int newest = 0;
        int size = 0;

        Past() {
            for (int i = 0; i < MOST_UNDONE; i++) {
                scenes[i] = new Scene();
            }
        }

        void clear() {
            size = 0;
        }

        void keep(Scene scene) {
            newest = (newest + 1) % MOST_UNDONE;
            scenes[newest].become(scene);
            size = Math.min(size + 1, MOST_UNDONE);
        }

        boolean takeBack(Scene scene) {
            if (size == 0) {
                return false;
            }
            scene.become(scenes[newest]);
            newest = (newest + MOST_UNDONE - 1) % MOST_UNDONE;
            size--;
            return true;
        }
    }

    /** What is told of a tune unknown. Sets of tunes are bits: by BEATS, then OFFSETS. */
    private static final class Ear {
        private static final int ALL_TUNES = (1 << 20) - 1;

        private final byte[] times = new byte[MOST_TOLD];
        private final boolean[] sounded = new boolean[MOST_TOLD];
        int size = 0;

        void clear() {
            size = 0;
        }

        int keep(int time, boolean sounds) {
            if (size >= MOST_TOLD || time < 0 || time >= ROUND) {
                return NONE;
            }
            times[size] = (byte) time;
            sounded[size] = sounds;
            size++;
            return size - 1;
        }

        boolean knows(int k) {
            return k >= 0 && k <= size;
        }

        int fitting(int k) {
            int fitting = ALL_TUNES;
            for (int i = 0; i < k && i < size && i < MOST_TOLD; i++) {
                int sounding = soundingAt(times[i]);
                fitting &= sounded[i] ? sounding : ~sounding;
            }
            return fitting;
        }

        private static int soundingAt(int time) {
            int sounding = 0;
            int tunesBefore = 0;
            for (int beat = LEAST_BEAT; beat <= LONGEST_BEAT; beat++) {
                sounding |= 1 << tunesBefore + time % beat;
                tunesBefore += beat;
            }
            return sounding;
        }

        static int firstTune(int fitting) {
            int tunesBefore = 0;
            int first = lowest(fitting);
            for (int beat = LEAST_BEAT; beat <= LONGEST_BEAT; beat++) {
                if (first < tunesBefore + beat) {
                    return 10 * beat + first - tunesBefore;
                }
                tunesBefore += beat;
            }
            return NOT;
        }

        static int bestTime(int fitting) {
            int best = NOT;
            int fewest = Integer.bitCount(fitting) + 1;
            for (int time = 0; time < ROUND && fitting != 0; time++) {
                int sounding = soundingAt(time);
                int left = Math.max(Integer.bitCount(fitting & sounding), Integer.bitCount(fitting & ~sounding));
                if (left < fewest) {
                    fewest = left;
                    best = time;
                }
            }
            return best;
        }
    }
}
