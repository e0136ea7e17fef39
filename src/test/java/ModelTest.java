import java.nio.charset.StandardCharsets;
import java.util.ArrayList;
import java.util.List;
import java.util.Random;

/** Runs of calls drawn by seeds, on the class and on the model: both must answer alike. */
public final class ModelTest {
    private static final int RUNS = 600;
    private static final String[] VARS =
            {"left", "top", "time", "beat", "moved", "which", "wide", "high", "tunes"};
    private static final String[] PIECES = {"lawn", "tune", "goer", "rope", "steps", "moves", "spreads", "costs",
        "wet", "seed", "if", "then", "else", "left", "top", "time", "beat", "moved", "which", "wide", "high", "tunes",
        ";", "=", "+", "-", "*", "/", "<", "(", ")", "0", "1", "2", "5", "6", "12", "100", "9999", "10000", "00001",
        "ab", "zzzzzzzz", "zzzzzzzzz", ".", "\u00e9", "A", "_", "\0", "lawns", "iff"};

    private final Check check = new Check();
    private final Random random;
    private final int run;
    private BandstandLawn lawn = new BandstandLawn();
    private Model model = new Model();
    private int calls = 0;
    private final List<String> log = new ArrayList<>();

    private ModelTest(int run) {
        this.run = run;
        random = new Random(run);
    }

    public static void main(String[] args) {
        int runs = args.length > 0 ? Integer.parseInt(args[0]) : RUNS;
        int wrong = 0;
        int calls = 0;
        int[] faults = new int[7];
        for (int run = 0; run < runs; run++) {
            ModelTest test = new ModelTest(run);
            test.go(faults);
            wrong += test.check.wrong();
            calls += test.calls;
            if (test.check.wrong() != 0) {
                System.out.println("run " + run + ":");
                test.log.forEach(row -> System.out.println("    " + row));
                if (wrong > 20) {
                    break;
                }
            }
        }
        System.out.println("ModelTest: " + calls + " calls in " + runs + " runs, " + wrong + " not as due; texts without fault "
                + faults[0] + ", SYNTAX " + faults[1] + ", ROOM " + faults[2] + ", TWICE " + faults[3] + ", WRONG "
                + faults[5] + ", LAWN " + faults[6]);
        if (wrong != 0) {
            System.exit(1);
        }
    }

    private void due(String call, long got, long want) {
        calls++;
        if (got != want) {
            log.add(call + " answered " + got + ", due is " + want + "  [" + model + "]");
        }
        check.due("run " + run + ": " + call, got, want);
    }

    private void due(String call, boolean got, boolean want) {
        due(call, got ? 1 : 0, want ? 1 : 0);
    }

    private void go(int[] faults) {
        int texts = 1 + below(3);
        for (int i = 0; i < texts; i++) {
            readSome(below(4) == 0 ? spoiled(text()) : text(), faults);
            int many = 20 + below(80);
            for (int j = 0; j < many; j++) {
                if (below(3) == 0) {
                    doSomething();
                } else {
                    ask();
                }
            }
        }
    }

    private int below(int n) {
        return random.nextInt(n);
    }

    // ---- texts

    private void readSome(String text, int[] faults) {
        byte[] bytes = text.getBytes(StandardCharsets.ISO_8859_1);
        int at = 0;
        while (at < bytes.length) {
            int[] words = new int[5];
            for (int i = 0; i < 20; i++) {
                int sign = at + i < bytes.length ? bytes[at + i] & 255 : below(256);
                words[i / 4] |= sign << 24 - 8 * (i % 4);
            }
            due("feed", lawn.feed(words[0], words[1], words[2], words[3], words[4]), model.feed(words));
            at += 20;
        }
        int over = Math.min(2000, at) - bytes.length;
        due("back(" + over + ")", lawn.back(over), model.back(over));
        due("count(8)", lawn.count(8), model.count(8));
        log.add("text: " + text);
        int fault = model.read();
        due("read", lawn.read(), fault);
        due("place", lawn.place(), model.place());
        due("count(8)", lawn.count(8), model.count(8));
        faults[fault]++;
    }

    private String blank() {
        return below(4) != 0 ? " " : new String[] {"\n", "\t", "\r", "  ", " \r\n"}[below(5)];
    }

    private String text() {
        StringBuilder text = new StringBuilder();
        int wide = 2 + below(4);
        int high = 2 + below(4);
        if (below(6) == 0) {
            wide = 4;
            high = 4;
        } else {
            text.append("lawn ").append(wide).append(blank()).append(high).append(';');
        }
        int many = below(30);
        boolean loose = below(12) == 0;
        int[] told = new int[12];
        for (int i = 0; i < many; i++) {
            int x = below(loose ? 5 : wide);
            int y = below(loose ? 5 : high);
            int sort = below(12);
            int sortOf = sort <= 2 ? 0 : sort <= 4 ? 1 : sort;
            if (++told[sortOf] > (sortOf == 1 ? 5 : 8) && below(8) != 0 || sortOf == 5 && below(3) != 0) {
                continue;
            }
            switch (sort) {
                case 0, 1, 2 -> {
                    int beat = 2 + below(5);
                    text.append("tune ").append(x).append(blank()).append(y).append(blank()).append(beat)
                            .append(blank()).append(below(40) == 0 ? below(8) : below(beat));
                }
                case 3, 4 -> text.append("goer ").append(below(60) == 0 ? "a" : name(i)).append(blank()).append(x)
                        .append(blank()).append(y);
                case 5 -> text.append("rope").append(x).append(blank()).append(y);
                case 6 -> text.append("steps=").append(law());
                case 7 -> text.append("moves=").append(law());
                case 8 -> text.append("spreads = ").append(below(2) == 0 ? "1" : law());
                case 9 -> text.append("costs ").append(blank()).append("=").append(law());
                case 10 -> text.append("wet ").append(below(3) == 0 ? 100 : below(below(30) == 0 ? 130 : 101));
                default -> text.append("seed").append(blank()).append(below(10000));
            }
            text.append(below(2) == 0 ? "" : blank()).append(';').append(below(2) == 0 ? "" : blank());
        }
        return text.length() > 2000 ? text.substring(0, 2000) : text.toString();
    }

    private String name(int i) {
        return "g" + (char) ('a' + i % 26) + (char) ('a' + i / 26);
    }

    private String law() {
        StringBuilder law = new StringBuilder();
        int ifs = below(4) == 0 ? below(below(20) == 0 ? 6 : 5) : 0;
        for (int i = 0; i < ifs; i++) {
            law.append("if ").append(sum(2)).append('<').append(sum(2)).append(" then ").append(sum(2))
                    .append(" else ");
        }
        return law.append(sum(below(40) == 0 ? 9 : 3)).toString();
    }

    private String sum(int depth) {
        StringBuilder sum = new StringBuilder(product(depth));
        for (int i = below(3); i > 0; i--) {
            sum.append(below(2) == 0 ? "+" : "-").append(below(4) == 0 ? blank() : "").append(product(depth));
        }
        return sum.toString();
    }

    private String product(int depth) {
        StringBuilder product = new StringBuilder(unit(depth));
        while (below(4) == 0) {
            product.append(below(2) == 0 ? "*" : "/").append(unit(depth));
        }
        return product.toString();
    }

    private String unit(int depth) {
        int kind = below(depth > 4 ? 3 : 8);
        if (kind <= 1 && depth > 0) {
            return "(" + sum(depth - 1) + ")";
        }
        if (kind <= 3) {
            return String.valueOf(below(below(4) == 0 ? 10000 : 7));
        }
        return VARS[below(VARS.length)];
    }

    private String spoiled(String text) {
        StringBuilder spoiled = new StringBuilder(text);
        for (int i = 1 + below(2); i > 0 && spoiled.length() > 0; i--) {
            int at = below(spoiled.length());
            switch (below(6)) {
                case 0 -> spoiled.deleteCharAt(at);
                case 1 -> spoiled.insert(at, PIECES[below(PIECES.length)]);
                case 2 -> spoiled.insert(at, " " + PIECES[below(PIECES.length)] + " ");
                case 3 -> spoiled.setLength(at);
                case 4 -> spoiled.setCharAt(at, (char) below(256));
                default -> spoiled.append(text);
            }
        }
        if (spoiled.length() > 2000) {
            spoiled.setLength(2000);
        }
        return spoiled.toString();
    }

    // ---- calls

    /** Mostly within 0 .. most, now and then just beyond it, or far. */
    private int some(int most) {
        return switch (below(24)) {
            case 0 -> -1;
            case 1 -> most + 1;
            case 2 -> below(4) == 0 ? new int[] {Integer.MIN_VALUE, Integer.MAX_VALUE, -2, 31, 32, 33, 64}[below(7)]
                    : below(most + 1);
            default -> below(most + 1);
        };
    }

    private int aCell() {
        return some(model.count(0) * model.count(1) - 1);
    }

    private int aGoer() {
        return some(Math.max(0, model.count(2) - 1));
    }

    private int aSpan() {
        return below(3) == 0 ? some(100) : some(12);
    }

    private void doSomething() {
        int a = aCell();
        int goer = aGoer();
        boolean yes = below(3) != 0;
        switch (below(9)) {
            case 0 -> due("mow(" + a + ")", lawn.mow(a), model.mow(a));
            case 1, 2 -> due("rope(" + a + ", " + yes + ")", lawn.rope(a, yes), model.rope(a, yes));
            case 3 -> due("carry(" + goer + ", " + a + ")", lawn.carry(goer, a), model.carry(goer, a));
            case 4 -> {
                int n = aSpan();
                due("beats(" + n + ")", lawn.beats(n), model.beats(n));
            }
            case 5 -> {
                for (int i = below(5); i >= 0; i--) {
                    due("undo()", lawn.undo(), model.undo());
                }
            }
            case 6 -> {
                int slot = some(2);
                due("hold(" + slot + ")", lawn.hold(slot), model.hold(slot));
            }
            case 7 -> {
                int slot = some(2);
                due("restore(" + slot + ")", lawn.restore(slot), model.restore(slot));
            }
            default -> {
                int time = some(59);
                if (below(40) == 0) {
                    due("forget()", lawn.forget(), model.forget());
                } else {
                    due("tell(" + time + ", " + yes + ")", lawn.tell(time, yes), model.tell(time, yes));
                }
            }
        }
        int what = some(19);
        due("count(" + what + ")", lawn.count(what), model.count(what));
        log.add("then " + model);
    }

    private void ask() {
        int a = aCell();
        int b = aCell();
        int goer = aGoer();
        int other = aGoer();
        int n = aSpan();
        int what = some(1);
        switch (below(28)) {
            case 0 -> {
                int of = some(5);
                due("cell(" + a + ", " + of + ")", lawn.cell(a, of), model.cell(a, of));
            }
            case 1 -> {
                int of = some(3);
                due("goer(" + goer + ", " + of + ")", lawn.goer(goer, of), model.goer(goer, of));
            }
            case 2 -> due("next(" + a + ")", lawn.next(a), model.next(a));
            case 3 -> due("together(" + a + ", " + b + ")", lawn.together(a, b), model.together(a, b));
            case 4, 5 -> {
                int i = below(4) == 0 ? -1 : some(8);
                due("way(" + a + ", " + b + ", " + i + ")", lawn.way(a, b, i), model.way(a, b, i));
            }
            case 6 -> due("leave(" + a + ", " + b + ", " + what + ")", lawn.leave(a, b, what), model.leave(a, b, what));
            case 7, 8 -> {
                int most = below(3) != 0 ? some(9) : n;
                due("mows(" + a + ", " + b + ", " + most + ", " + what + ")", lawn.mows(a, b, most, what),
                        model.mows(a, b, most, what));
            }
            case 9, 10 -> due("part(" + a + ", " + b + ")", lawn.part(a, b), model.part(a, b));
            case 11 -> due("meet(" + goer + ", " + other + ", " + what + ")", lawn.meet(goer, other, what),
                    model.meet(goer, other, what));
            case 12 -> due("returns(" + goer + ")", lawn.returns(goer), model.returns(goer));
            case 13 -> due("never(" + n + ")", lawn.never(n), model.never(n));
            case 14 -> due("stood(" + goer + ", " + a + ", " + n + ")", lawn.stood(goer, a, n), model.stood(goer, a, n));
            case 15 -> due("loud(" + n + ")", lawn.loud(n), model.loud(n));
            case 16 -> due("silence(" + what + ")", lawn.silence(what), model.silence(what));
            case 17 -> due("chorus(" + what + ")", lawn.chorus(what), model.chorus(what));
            case 18 -> due("period()", lawn.period(), model.period());
            case 19 -> due("centre(" + what + ")", lawn.centre(what), model.centre(what));
            case 20 -> due("far(" + a + ", " + b + ")", lawn.far(a, b), model.far(a, b));
            case 21 -> due("pairs(" + goer + ")", lawn.pairs(goer), model.pairs(goer));
            case 22 -> due("then(" + goer + ", " + n + ", " + what + ")", lawn.then(goer, n, what),
                    model.then(goer, n, what));
            case 23 -> due("tunesIn(" + n + ")", lawn.tunesIn(n), model.tunesIn(n));
            case 24 -> {
                int s = below(3) == 0 ? some(20) : 1 + below(4);
                due("year(" + a + ", " + n + ", " + s + ")", lawn.year(a, n, s), model.year(a, n, s));
            }
            case 25, 26 -> {
                int k = some(model.count(10));
                due("fits(" + k + ", " + what + ")", lawn.fits(k, what), model.fits(k, what));
                due("listen(" + k + ")", lawn.listen(k), model.listen(k));
            }
            default -> {
                int of = some(19);
                due("count(" + of + ")", lawn.count(of), model.count(of));
            }
        }
    }
}
