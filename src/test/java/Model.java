import java.util.ArrayDeque;
import java.util.ArrayList;
import java.util.Arrays;
import java.util.Deque;
import java.util.HashMap;
import java.util.HashSet;
import java.util.List;
import java.util.Map;
import java.util.Set;
import java.util.TreeMap;
import java.util.TreeSet;
import java.util.regex.Matcher;
import java.util.regex.Pattern;

/**
 * The document once more, slowly and by the most plain means (maps, sets, all tries), to hold the class's
 * answers against. It shares no code with the class.
 */
final class Model {
    private static final int NONE = -1;
    private static final int NOT = -2;
    private static final List<String> VARS =
            List.of("left", "top", "time", "beat", "moved", "which", "wide", "high", "tunes");
    private static final List<String> WORDS = List.of("lawn", "tune", "goer", "rope", "steps", "moves", "spreads",
            "costs", "wet", "seed", "if", "then", "else");

    /** A FAULT that ends the reading. */
    private static final class Fault extends Exception {
        private static final long serialVersionUID = 1;
        final int number;
        final int place;

        Fault(int number, int place) {
            super(null, null, false, false);
            this.number = number;
            this.place = place;
        }
    }

    private static final class DividedByNought extends RuntimeException {
        private static final long serialVersionUID = 1;

        DividedByNought() {
            super(null, null, false, false);
        }
    }

    private record Token(String text, int place) {
        boolean is(String other) {
            return text.equals(other);
        }

        boolean isInt() {
            return text.matches("[0-9]{1,4}");
        }

        boolean isName() {
            return text.matches("[a-z]{1,8}") && !VARS.contains(text) && !WORDS.contains(text);
        }

        boolean isToken() {
            return text.matches("[a-z]{1,8}|[0-9]{1,4}|[-;=+*/<()]");
        }
    }

    private interface Expression {
        int value(Map<String, Integer> asked);
    }

    private record Tune(int beat, int offset) {
        boolean sounds(int time) {
            return time % beat == offset;
        }
    }

    /** All that goes on; a copy is made ahead of each change. */
    private static final class State {
        int time = 0;
        int paid = 0;
        Set<Integer> ropes = new TreeSet<>();
        Map<Integer, Tune> tunes = new TreeMap<>();
        List<Integer> at = new ArrayList<>();
        List<Integer> moved = new ArrayList<>();

        State copy() {
            State state = new State();
            state.time = time;
            state.paid = paid;
            state.ropes.addAll(ropes);
            state.tunes.putAll(tunes);
            state.at.addAll(at);
            state.moved.addAll(moved);
            return state;
        }
    }

    /** What a text tells. */
    private static final class Told {
        int wide = 4;
        int high = 4;
        int wet = 0;
        int seed = 0;
        Map<String, Expression> laws = new HashMap<>(Map.of("steps", a -> 0, "moves", a -> 1, "spreads", a -> 0,
                "costs", a -> 1));
        Map<List<Integer>, Tune> tunes = new HashMap<>();
        List<List<Integer>> goers = new ArrayList<>();
        Set<List<Integer>> ropes = new HashSet<>();
    }

    private final StringBuilder tape = new StringBuilder();
    private int place = NONE;
    private Told told = new Told();
    private State now = new State();
    private final Deque<State> undo = new ArrayDeque<>();
    private final Map<Integer, State> slots = new HashMap<>();
    private final List<int[]> heard = new ArrayList<>();

    // ---------------------------------------------------------------- texts

    int feed(int... words) {
        if (tape.length() + 20 > 2000) {
            return NONE;
        }
        for (int word : words) {
            for (int i = 3; i >= 0; i--) {
                tape.append((char) (word >>> 8 * i & 255));
            }
        }
        return tape.length();
    }

    int back(int n) {
        if (n < 0 || n > tape.length()) {
            return NONE;
        }
        tape.setLength(tape.length() - n);
        return tape.length();
    }

    int read() {
        String text = tape.toString();
        tape.setLength(0);
        try {
            Told next = new Parser(text).parse();
            told = next;
            now = new State();
            next.tunes.forEach((spot, tune) -> now.tunes.put(cellAt(spot.get(0), spot.get(1)), tune));
            next.ropes.forEach(spot -> now.ropes.add(cellAt(spot.get(0), spot.get(1))));
            next.goers.forEach(spot -> {
                now.at.add(cellAt(spot.get(0), spot.get(1)));
                now.moved.add(0);
            });
            undo.clear();
            slots.clear();
            heard.clear();
            place = NONE;
            return 0;
        } catch (Fault fault) {
            place = fault.place;
            return fault.number;
        }
    }

    int place() {
        return place;
    }

    private static final class Parser {
        private final List<Token> tokens = new ArrayList<>();
        private final Told told = new Told();
        private final List<int[]> later = new ArrayList<>();
        private final Set<String> names = new HashSet<>();
        private final int length;
        private int next = 0;
        private int tunes = 0;
        private int ropes = 0;

        Parser(String text) {
            length = text.length();
            Matcher matcher = Pattern.compile("[\\t\\n\\r ]+|([a-z]+|[0-9]+|.)", Pattern.DOTALL).matcher(text);
            while (matcher.find()) {
                if (matcher.group(1) != null) {
                    tokens.add(new Token(matcher.group(1), matcher.start()));
                }
            }
            tokens.add(new Token("", length));
        }

        Told parse() throws Fault {
            while (!peek().is("")) {
                tell();
            }
            if (later.isEmpty() && beyond()) {
                later.add(new int[] {6, length});
            }
            if (!later.isEmpty()) {
                int[] first = later.stream()
                        .min((a, b) -> a[1] != b[1] ? Integer.compare(a[1], b[1]) : Integer.compare(a[0], b[0]))
                        .get();
                throw new Fault(first[0], first[1]);
            }
            return told;
        }

        private Token peek() {
            return tokens.get(next);
        }

        private Fault syntax() {
            return new Fault(1, peek().place());
        }

        private Fault room() {
            return new Fault(2, peek().place());
        }

        private Token take() throws Fault {
            if (!peek().isToken()) {
                throw syntax();
            }
            if (next == 400) {
                throw room();
            }
            return tokens.get(next++);
        }

        private void need(String text) throws Fault {
            if (!peek().is(text)) {
                throw syntax();
            }
            take();
        }

        private int number(int least, int below) throws Fault {
            if (!peek().isInt()) {
                throw syntax();
            }
            Token token = take();
            int value = Integer.parseInt(token.text());
            if (value < least || value >= below) {
                later.add(new int[] {5, token.place()});
            }
            return value;
        }

        private void tell() throws Fault {
            String word = peek().text();
            switch (word) {
                case "lawn" -> {
                    take();
                    told.wide = number(2, 6);
                    told.high = number(2, 6);
                }
                case "tune" -> {
                    if (++tunes > 8) {
                        throw room();
                    }
                    take();
                    int x = number(0, 5);
                    int y = number(0, 5);
                    int beat = number(2, 7);
                    int offset = number(0, Math.min(beat, 6));
                    told.tunes.put(List.of(x, y), new Tune(beat, offset));
                }
                case "goer" -> {
                    if (told.goers.size() == 5) {
                        throw room();
                    }
                    take();
                    if (!peek().isName()) {
                        throw syntax();
                    }
                    Token name = take();
                    if (!names.add(name.text())) {
                        later.add(new int[] {3, name.place()});
                    }
                    int x = number(0, 5);
                    told.goers.add(List.of(x, number(0, 5)));
                }
                case "rope" -> {
                    if (++ropes > 8) {
                        throw room();
                    }
                    take();
                    int x = number(0, 5);
                    told.ropes.add(List.of(x, number(0, 5)));
                }
                case "steps", "moves", "spreads", "costs" -> {
                    take();
                    need("=");
                    told.laws.put(word, law(0));
                }
                case "wet" -> {
                    take();
                    told.wet = number(0, 101);
                }
                case "seed" -> {
                    take();
                    told.seed = number(0, 10000);
                }
                default -> throw syntax();
            }
            need(";");
        }

        private Expression law(int ifs) throws Fault {
            if (!peek().is("if")) {
                return sum(0);
            }
            if (ifs == 4) {
                throw room();
            }
            take();
            Expression one = sum(0);
            need("<");
            Expression other = sum(0);
            need("then");
            Expression yes = sum(0);
            need("else");
            Expression no = law(ifs + 1);
            return a -> one.value(a) < other.value(a) ? yes.value(a) : no.value(a);
        }

        private Expression sum(int nested) throws Fault {
            Expression left = product(nested);
            while (peek().is("+") || peek().is("-")) {
                boolean plus = take().is("+");
                Expression one = left;
                Expression other = product(nested);
                left = plus ? a -> one.value(a) + other.value(a) : a -> one.value(a) - other.value(a);
            }
            return left;
        }

        private Expression product(int nested) throws Fault {
            Expression left = unit(nested);
            while (peek().is("*") || peek().is("/")) {
                boolean times = take().is("*");
                Expression one = left;
                Expression other = unit(nested);
                left = times ? a -> one.value(a) * other.value(a) : a -> divided(one.value(a), other.value(a));
            }
            return left;
        }

        private static int divided(int one, int other) {
            if (other == 0) {
                throw new DividedByNought();
            }
            return one / other;
        }

        private Expression unit(int nested) throws Fault {
            if (peek().isInt()) {
                int number = Integer.parseInt(take().text());
                return a -> number;
            }
            if (VARS.contains(peek().text())) {
                String name = take().text();
                return a -> a.get(name);
            }
            if (!peek().is("(")) {
                throw syntax();
            }
            if (nested == 6) {
                throw room();
            }
            take();
            Expression inner = sum(nested + 1);
            need(")");
            return inner;
        }

        private boolean beyond() {
            List<List<Integer>> all = new ArrayList<>(told.tunes.keySet());
            all.addAll(told.goers);
            all.addAll(told.ropes);
            return all.stream().anyMatch(spot -> spot.get(0) >= told.wide || spot.get(1) >= told.high)
                    || told.goers.stream().anyMatch(told.ropes::contains);
        }
    }

    // ---------------------------------------------------------------- laws and beats

    private int cells() {
        return told.wide * told.high;
    }

    private int cellAt(int x, int y) {
        return told.wide * y + x;
    }

    private boolean isCell(int cell) {
        return cell >= 0 && cell < cells();
    }

    private boolean isGoer(int goer) {
        return goer >= 0 && goer < now.at.size();
    }

    private boolean isSpan(int n) {
        return n >= 0 && n <= 100;
    }

    private boolean isOneOfTwo(int what) {
        return what == 0 || what == 1;
    }

    private int law(State state, String law, int cell, int moved, int which) {
        Map<String, Integer> asked = new HashMap<>();
        asked.put("left", cell % told.wide);
        asked.put("top", cell / told.wide);
        asked.put("time", state.time);
        asked.put("beat", state.tunes.containsKey(cell) ? state.tunes.get(cell).beat() : 0);
        asked.put("moved", moved);
        asked.put("which", which);
        asked.put("wide", told.wide);
        asked.put("high", told.high);
        asked.put("tunes", state.tunes.size());
        try {
            return told.laws.get(law).value(asked);
        } catch (DividedByNought none) {
            return 0;
        }
    }

    private int goes(State state, String law, int goer) {
        int cell = state.at.get(goer);
        int rest = Math.max(0, law(state, law, cell, state.moved.get(goer), goer)) % 5;
        int x = cell % told.wide + (rest == 1 ? 1 : rest == 3 ? -1 : 0);
        int y = cell / told.wide + (rest == 2 ? 1 : rest == 4 ? -1 : 0);
        if (x < 0 || y < 0 || x >= told.wide || y >= told.high || state.ropes.contains(cellAt(x, y))) {
            return cell;
        }
        return cellAt(x, y);
    }

    private int costs(State state, int cell) {
        int value = law(state, "costs", cell, 0, 0);
        return value < 0 ? 0 : value > 99 ? 99 : value;
    }

    private static int lot(int n, int seed, int which) {
        int h = seed;
        for (int it : new int[] {197, which}) {
            h = (h ^ it) * 1103515245 + 12345;
            h = h ^ (h >>> 15);
        }
        return (h >>> 1) % n;
    }

    private boolean sounds(State state, int cell, int time) {
        return state.tunes.containsKey(cell) && state.tunes.get(cell).sounds(time);
    }

    private State beat(State from, boolean spreads, int seed) {
        State stepped = from.copy();
        for (int goer = 0; goer < from.at.size(); goer++) {
            stepped.at.set(goer, goes(from, "steps", goer));
        }
        stepped.time++;
        State moved = stepped.copy();
        for (int goer = 0; goer < from.at.size(); goer++) {
            if (sounds(stepped, stepped.at.get(goer), stepped.time)) {
                moved.at.set(goer, goes(stepped, "moves", goer));
                moved.moved.set(goer, stepped.moved.get(goer) + 1);
            }
        }
        if (!spreads) {
            return moved;
        }
        State spread = moved.copy();
        for (int cell : moved.tunes.keySet()) {
            boolean does = law(moved, "spreads", cell, 0, 0) > 0
                    && lot(100, seed, 32 * moved.time + cell) < told.wet;
            boolean hasRight = cell % told.wide + 1 < told.wide;
            if (does && hasRight && !moved.tunes.containsKey(cell + 1) && spread.tunes.size() < 8) {
                Tune tune = moved.tunes.get(cell);
                spread.tunes.put(cell + 1, new Tune(tune.beat(), (tune.offset() + 1) % tune.beat()));
            }
        }
        return spread;
    }

    private State in(int n, boolean spreads, int seed) {
        State state = now;
        for (int i = 0; i < n; i++) {
            state = beat(state, spreads, seed);
        }
        return state;
    }

    private static int bits(Iterable<Integer> members) {
        int bits = 0;
        for (int member : members) {
            bits |= 1 << member;
        }
        return bits;
    }

    // ---------------------------------------------------------------- what is, what is done

    int cell(int cell, int what) {
        if (!isCell(cell) || what < 0 || what > 5) {
            return NONE;
        }
        Tune tune = now.tunes.get(cell);
        return switch (what) {
            case 0 -> tune == null ? NOT : tune.beat();
            case 1 -> tune == null ? NOT : tune.offset();
            case 2 -> sounds(now, cell, now.time) ? 1 : 0;
            case 3 -> now.ropes.contains(cell) ? 1 : 0;
            case 4 -> {
                int who = 0;
                for (int goer = 0; goer < now.at.size(); goer++) {
                    who += now.at.get(goer) == cell ? 1 << goer : 0;
                }
                yield who;
            }
            default -> costs(now, cell);
        };
    }

    int goer(int goer, int what) {
        if (!isGoer(goer)) {
            return NONE;
        }
        return switch (what) {
            case 0 -> now.at.get(goer);
            case 1 -> now.moved.get(goer);
            case 2 -> goes(now, "steps", goer);
            case 3 -> goes(now, "moves", goer);
            default -> NONE;
        };
    }

    private void done(State next) {
        undo.addLast(now);
        if (undo.size() > 40) {
            undo.removeFirst();
        }
        now = next;
    }

    int mow(int cell) {
        if (!isCell(cell) || !now.tunes.containsKey(cell)) {
            return NONE;
        }
        State next = now.copy();
        int cost = costs(now, cell);
        next.paid += cost;
        next.tunes.remove(cell);
        done(next);
        return cost;
    }

    boolean rope(int cell, boolean off) {
        if (!isCell(cell) || now.at.contains(cell) || now.ropes.contains(cell) == off
                || off && now.tunes.containsKey(cell)) {
            return false;
        }
        State next = now.copy();
        if (off) {
            next.ropes.add(cell);
        } else {
            next.ropes.remove(cell);
        }
        done(next);
        return true;
    }

    boolean carry(int goer, int cell) {
        if (!isGoer(goer) || !isCell(cell) || now.ropes.contains(cell) || now.at.get(goer) == cell) {
            return false;
        }
        State next = now.copy();
        next.at.set(goer, cell);
        done(next);
        return true;
    }

    int beats(int n) {
        if (!isSpan(n)) {
            return NONE;
        }
        if (n > 0) {
            done(in(n, true, told.seed));
        }
        return now.time;
    }

    boolean undo() {
        if (undo.isEmpty()) {
            return false;
        }
        now = undo.removeLast();
        return true;
    }

    boolean hold(int slot) {
        if (slot < 0 || slot > 2) {
            return false;
        }
        slots.put(slot, now);
        return true;
    }

    boolean restore(int slot) {
        if (!slots.containsKey(slot)) {
            return false;
        }
        now = slots.get(slot);
        undo.clear();
        return true;
    }

    int count(int what) {
        Set<Integer> empty = new TreeSet<>();
        int moved = 0;
        int cost = 0;
        Set<Integer> ever = new TreeSet<>();
        Set<Integer> loud = new TreeSet<>();
        for (int cell = 0; cell < cells(); cell++) {
            if (!now.tunes.containsKey(cell) && !now.ropes.contains(cell) && !now.at.contains(cell)) {
                empty.add(cell);
            }
            cost += now.tunes.containsKey(cell) ? costs(now, cell) : 0;
            if (sounds(now, cell, now.time)) {
                loud.add(cell);
            }
        }
        for (int goer = 0; goer < now.at.size(); goer++) {
            moved += now.moved.get(goer);
            if (now.moved.get(goer) != 0) {
                ever.add(goer);
            }
        }
        int[] all = {told.wide, told.high, now.at.size(), now.time, now.paid, bits(now.tunes.keySet()),
            bits(now.ropes), bits(now.at), tape.length(), undo.size(), heard.size(), slots.size(), bits(loud), moved,
            now.tunes.size(), cost, bits(empty), now.ropes.size(), bits(ever), told.wet};
        return what >= 0 && what < all.length ? all[what] : NONE;
    }

    // ---------------------------------------------------------------- what would be

    int next(int cell) {
        if (!isCell(cell)) {
            return NONE;
        }
        if (!now.tunes.containsKey(cell)) {
            return NOT;
        }
        int n = 1;
        while (!sounds(now, cell, now.time + n)) {
            n++;
        }
        return n;
    }

    int together(int cell, int other) {
        if (!isCell(cell) || !isCell(other)) {
            return NONE;
        }
        for (int n = 0; n < 60; n++) {
            if (sounds(now, cell, now.time + n) && sounds(now, other, now.time + n)) {
                return n;
            }
        }
        return NOT;
    }

    private boolean isFree(int cell) {
        return isCell(cell) && !now.ropes.contains(cell);
    }

    private boolean beside(int cell, int other) {
        int x = Math.abs(cell % told.wide - other % told.wide);
        int y = Math.abs(cell / told.wide - other / told.wide);
        return x + y == 1;
    }

    /** All cells in which PATHS can be one BEAT on, at that time. */
    private Set<Integer> onwards(Set<Integer> cells, int time, Set<Integer> mown) {
        Set<Integer> next = new TreeSet<>();
        for (int cell : cells) {
            for (int other = 0; other < cells(); other++) {
                boolean quiet = mown.contains(other) || !sounds(now, other, time);
                if ((other == cell || beside(cell, other)) && isFree(other) && quiet) {
                    next.add(other);
                }
            }
        }
        return next;
    }

    private int pathLength(int from, int to, int start, Set<Integer> mown, int most) {
        Set<Integer> cells = Set.of(from);
        for (int n = 0; n <= most; n++) {
            if (cells.contains(to)) {
                return n;
            }
            cells = onwards(cells, start + n + 1, mown);
        }
        return NONE;
    }

    int way(int from, int to, int i) {
        if (!isFree(from) || !isFree(to)) {
            return NONE;
        }
        int length = pathLength(from, to, now.time, Set.of(), 100);
        if (length == NONE) {
            return NOT;
        }
        if (i == NONE) {
            return length;
        }
        if (i < 0 || i > length) {
            return NONE;
        }
        int cell = from;
        for (int n = 1; n <= i; n++) {
            for (int lower : onwards(Set.of(cell), now.time + n, Set.of())) {
                if (pathLength(lower, to, now.time + n, Set.of(), length - n) != NONE) {
                    cell = lower;
                    break;
                }
            }
        }
        return cell;
    }

    int leave(int from, int to, int what) {
        if (!isFree(from) || !isFree(to) || !isOneOfTwo(what)) {
            return NONE;
        }
        int begin = NOT;
        int shortest = NOT;
        for (int n = 0; n < 60; n++) {
            int length = pathLength(from, to, now.time + n, Set.of(), 100);
            if (length != NONE && (shortest == NOT || length < shortest)) {
                begin = n;
                shortest = length;
            }
        }
        return what == 0 ? begin : shortest;
    }

    int mows(int from, int to, int n, int what) {
        if (!isFree(from) || !isFree(to) || !isSpan(n) || !isOneOfTwo(what)) {
            return NONE;
        }
        List<Integer> tuned = new ArrayList<>(now.tunes.keySet());
        int fewest = NOT;
        int which = NOT;
        for (int choice = 0; choice < 1 << tuned.size(); choice++) {
            Set<Integer> mown = new HashSet<>();
            for (int i = 0; i < tuned.size(); i++) {
                if ((choice >> i & 1) == 1) {
                    mown.add(tuned.get(i));
                }
            }
            boolean better = fewest == NOT || mown.size() < fewest || mown.size() == fewest && bits(mown) < which;
            if (better && pathLength(from, to, now.time, mown, n) != NONE) {
                fewest = mown.size();
                which = bits(mown);
            }
        }
        return what == 0 ? fewest : which;
    }

    private int steps(int from, int to, Set<Integer> closed) {
        Map<Integer, Integer> far = new HashMap<>(Map.of(from, 0));
        Deque<Integer> queue = new ArrayDeque<>(List.of(from));
        while (!queue.isEmpty()) {
            int cell = queue.remove();
            for (int other = 0; other < cells(); other++) {
                boolean open = !closed.contains(other) || other == to;
                if (beside(cell, other) && open && !far.containsKey(other)) {
                    far.put(other, far.get(cell) + 1);
                    queue.add(other);
                }
            }
        }
        return far.getOrDefault(to, NOT);
    }

    int part(int from, int to) {
        if (!isFree(from) || !isFree(to)) {
            return NONE;
        }
        if (from == to || beside(from, to)) {
            return NOT;
        }
        for (int few = 0; few < 4; few++) {
            if (partedBy(few, 0, from, to, new TreeSet<>(now.ropes))) {
                return few;
            }
        }
        return 4;
    }

    private boolean partedBy(int few, int first, int from, int to, Set<Integer> closed) {
        if (steps(from, to, closed) == NOT) {
            return true;
        }
        for (int cell = first; cell < cells() && few > 0; cell++) {
            if (cell != from && cell != to && closed.add(cell)) {
                boolean parted = partedBy(few - 1, cell + 1, from, to, closed);
                closed.remove(cell);
                if (parted) {
                    return true;
                }
            }
        }
        return false;
    }

    int meet(int goer, int other, int what) {
        if (!isGoer(goer) || !isGoer(other) || !isOneOfTwo(what)) {
            return NONE;
        }
        Set<Integer> one = Set.of(now.at.get(goer));
        Set<Integer> two = Set.of(now.at.get(other));
        for (int n = 0; n <= 100; n++) {
            Set<Integer> both = new TreeSet<>(one);
            both.retainAll(two);
            if (!both.isEmpty()) {
                return what == 0 ? n : both.iterator().next();
            }
            one = onwards(one, now.time + n + 1, Set.of());
            two = onwards(two, now.time + n + 1, Set.of());
        }
        return NOT;
    }

    int returns(int goer) {
        if (!isGoer(goer)) {
            return NONE;
        }
        State state = now;
        for (int n = 1; n <= 100; n++) {
            state = beat(state, false, 0);
            if (state.at.get(goer).equals(now.at.get(goer))) {
                return n;
            }
        }
        return NOT;
    }

    int never(int n) {
        if (!isSpan(n)) {
            return NONE;
        }
        Set<Integer> left = new TreeSet<>();
        for (int cell = 0; cell < cells(); cell++) {
            left.add(cell);
        }
        State state = now;
        for (int i = 0; i <= n; i++) {
            left.removeAll(state.at);
            state = beat(state, false, 0);
        }
        return bits(left);
    }

    int stood(int goer, int cell, int n) {
        if (!isGoer(goer) || !isCell(cell) || !isSpan(n)) {
            return NONE;
        }
        int often = 0;
        State state = now;
        for (int i = 0; i <= n; i++) {
            often += state.at.get(goer) == cell ? 1 : 0;
            state = beat(state, false, 0);
        }
        return often;
    }

    private int voices(int n) {
        int voices = 0;
        for (Tune tune : now.tunes.values()) {
            voices += tune.sounds(now.time + n) ? 1 : 0;
        }
        return voices;
    }

    int loud(int n) {
        if (!isSpan(n)) {
            return NONE;
        }
        Set<Integer> loud = new TreeSet<>();
        for (int cell : now.tunes.keySet()) {
            if (sounds(now, cell, now.time + n)) {
                loud.add(cell);
            }
        }
        return bits(loud);
    }

    int silence(int what) {
        if (!isOneOfTwo(what)) {
            return NONE;
        }
        for (int length = 60; length > 0; length--) {
            for (int begin = 0; begin + length <= 60; begin++) {
                boolean quiet = true;
                for (int n = begin; n < begin + length && quiet; n++) {
                    quiet = voices(n) == 0;
                }
                if (quiet) {
                    return what == 0 ? length : begin;
                }
            }
        }
        return what == 0 ? 0 : NOT;
    }

    int chorus(int what) {
        if (!isOneOfTwo(what)) {
            return NONE;
        }
        for (int most = 8; most > 0; most--) {
            for (int n = 0; n < 60; n++) {
                if (voices(n) == most) {
                    return what == 0 ? n : most;
                }
            }
        }
        return 0;
    }

    int period() {
        int n = 1;
        while (!likeNow(n)) {
            n++;
        }
        return n;
    }

    private boolean likeNow(int n) {
        return now.tunes.values().stream().allMatch(tune -> (now.time + n) % tune.beat() == now.time % tune.beat());
    }

    int centre(int what) {
        if (!isOneOfTwo(what)) {
            return NONE;
        }
        int centre = NOT;
        int least = NOT;
        for (int cell = 0; cell < cells(); cell++) {
            if (!isFree(cell)) {
                continue;
            }
            int greatest = 0;
            for (int other = 0; other < cells(); other++) {
                if (isFree(other)) {
                    int far = far(cell, other);
                    greatest = Math.max(greatest, far == NOT ? 25 : far);
                }
            }
            if (least == NOT || greatest < least) {
                centre = cell;
                least = greatest;
            }
        }
        return what == 0 ? centre : least;
    }

    int far(int from, int to) {
        return isCell(from) && isCell(to) ? steps(from, to, now.ropes) : NONE;
    }

    int pairs(int i) {
        if (i != NONE && !isGoer(i)) {
            return NONE;
        }
        int goers = now.at.size();
        int[] best = null;
        int least = 0;
        // with[g] counts up through all numbers of goers, nobody being the last: the first least one is due
        int all = (int) Math.pow(goers + 1, goers);
        for (int code = 0; code < all; code++) {
            int[] with = new int[goers];
            int rest = code;
            for (int goer = goers - 1; goer >= 0; goer--) {
                with[goer] = rest % (goers + 1);
                rest /= goers + 1;
            }
            int sum = isMatching(with, goers) ? distances(with, goers) : NONE;
            if (sum != NONE && (best == null || sum < least)) {
                best = with;
                least = sum;
            }
        }
        if (i == NONE) {
            return least;
        }
        return best[i] == goers ? NOT : best[i];
    }

    private boolean isMatching(int[] with, int goers) {
        int nobody = 0;
        for (int goer = 0; goer < goers; goer++) {
            if (with[goer] == goers) {
                nobody++;
            } else if (with[goer] == goer || with[with[goer]] != goer) {
                return false;
            }
        }
        return nobody == goers % 2;
    }

    private int distances(int[] with, int goers) {
        int sum = 0;
        for (int goer = 0; goer < goers; goer++) {
            if (with[goer] < goer) {
                int one = now.at.get(goer);
                int other = now.at.get(with[goer]);
                sum += Math.abs(one % told.wide - other % told.wide) + Math.abs(one / told.wide - other / told.wide);
            }
        }
        return sum;
    }

    int then(int goer, int n, int what) {
        if (!isGoer(goer) || !isSpan(n) || !isOneOfTwo(what)) {
            return NONE;
        }
        State state = in(n, true, told.seed);
        return what == 0 ? state.at.get(goer) : state.moved.get(goer);
    }

    int tunesIn(int n) {
        return isSpan(n) ? bits(in(n, true, told.seed).tunes.keySet()) : NONE;
    }

    int year(int cell, int n, int s) {
        if (!isCell(cell) || !isSpan(n) || s < 1 || s > 20) {
            return NONE;
        }
        int often = 0;
        for (int i = 0; i < s; i++) {
            often += in(n, true, told.seed + i).tunes.containsKey(cell) ? 1 : 0;
        }
        return often;
    }

    // ---------------------------------------------------------------- what is told

    int tell(int time, boolean sounds) {
        if (time < 0 || time > 59 || heard.size() == 20) {
            return NONE;
        }
        heard.add(new int[] {time, sounds ? 1 : 0});
        return heard.size() - 1;
    }

    int forget() {
        int many = heard.size();
        heard.clear();
        return many;
    }

    private List<Tune> fitting(List<int[]> known) {
        List<Tune> fitting = new ArrayList<>();
        for (int beat = 2; beat <= 6; beat++) {
            for (int offset = 0; offset < beat; offset++) {
                Tune tune = new Tune(beat, offset);
                if (known.stream().allMatch(one -> tune.sounds(one[0]) == (one[1] == 1))) {
                    fitting.add(tune);
                }
            }
        }
        return fitting;
    }

    int fits(int k, int what) {
        if (k < 0 || k > heard.size() || !isOneOfTwo(what)) {
            return NONE;
        }
        List<Tune> fitting = fitting(heard.subList(0, k));
        if (what == 0) {
            return fitting.size();
        }
        return fitting.isEmpty() ? NOT : 10 * fitting.get(0).beat() + fitting.get(0).offset();
    }

    int listen(int k) {
        if (k < 0 || k > heard.size()) {
            return NONE;
        }
        int best = NOT;
        int least = 0;
        for (int time = 0; time < 60 && !fitting(heard.subList(0, k)).isEmpty(); time++) {
            int worst = 0;
            for (int sounds = 0; sounds <= 1; sounds++) {
                List<int[]> known = new ArrayList<>(heard.subList(0, k));
                known.add(new int[] {time, sounds});
                worst = Math.max(worst, fitting(known).size());
            }
            if (best == NOT || worst < least) {
                best = time;
                least = worst;
            }
        }
        return best;
    }

    @Override
    public String toString() {
        return "time " + now.time + ", at " + now.at + ", tunes " + now.tunes + ", ropes " + now.ropes + ", tape "
                + tape.length() + ", told " + Arrays.deepToString(heard.toArray());
    }
}
