import java.util.ArrayList;
import java.util.List;

/** Part I of the document and promises 1 to 5: each bound of tape and texts, from either side. */
public final class TextBoundsTest {
    private static final int NONE = BandstandLawn.NONE;
    private static final int NOT = -2;
    private static final int SYNTAX = 1;
    private static final int ROOM = 2;
    private static final int TWICE = 3;
    private static final int WRONG = 5;
    private static final int LAWN = 6;
    private static final int BLANKS = 0x20202020;

    private static final String[] TELLS =
            {"lawn", "tune", "goer", "rope", "steps", "moves", "spreads", "costs", "wet", "seed"};
    private static final String[] LAWS = {"steps", "moves", "spreads", "costs"};
    private static final String[] VARS =
            {"left", "top", "time", "beat", "moved", "which", "wide", "high", "tunes"};
    private static final String[] SIGNS = {";", "=", "+", "-", "*", "/", "<", "(", ")"};
    private static final String IF = "if 1 < 2 then 3 else ";

    private final Check check = new Check();

    public static void main(String[] args) {
        TextBoundsTest test = new TextBoundsTest();
        test.newObject();
        test.feed();
        test.back();
        test.tapeRead();
        test.bytes();
        test.names();
        test.ints();
        test.longestTokens();
        test.goesOn();
        test.lawns();
        test.tunes();
        test.goers();
        test.ropes();
        test.laws();
        test.wetAndSeed();
        test.firstByPlace();
        test.tokensRoom();
        test.sortsRoom();
        test.ifsRoom();
        test.nestedRoom();
        test.twice();
        test.wrong();
        test.beyondTheLawn();
        test.changesNothing();
        test.inPlaceOfTheOneAhead();
        test.check.end("TextBoundsTest");
    }

    private void says(String words) {
        check.says(words);
    }

    private void due(String call, long got, long want) {
        check.due(call, got, want);
    }

    private void due(String call, boolean got, boolean want) {
        check.due(call, got, want);
    }

    private void fault(String text, int number, int place) {
        check.fault(text, number, place);
    }

    private void fine(String text) {
        check.fine(text);
    }

    private static String times(int n, String piece) {
        return piece.repeat(n);
    }

    // ---- promise 1

    private void newObject() {
        says("A LAWN of 4 by 4, no TUNES, no GOERS.");
        BandstandLawn lawn = new BandstandLawn();
        int[] counts = {4, 4, 0, 0, 0, 0, 0, 0, 0, 0, 0, 0, 0, 0, 0, 0, 65535, 0, 0, 0, NONE};
        for (int what = 0; what < counts.length; what++) {
            due("count(" + what + ")", lawn.count(what), counts[what]);
        }
        due("cell(15, 3)", lawn.cell(15, 3), 0);
        due("cell(16, 3)", lawn.cell(16, 3), NONE);
        due("far(3, 4), of two rows", lawn.far(3, 4), 4);
        due("far(0, 12)", lawn.far(0, 12), 3);
        due("goer(0, 0)", lawn.goer(0, 0), NONE);
        due("TUNES", lawn.count(5), 0);
        due("tunesIn(100)", lawn.tunesIn(100), 0);
        due("things done", lawn.count(9), 0);
        due("undo()", lawn.undo(), false);
        due("forget()", lawn.forget(), 0);
        due("place()", lawn.place(), NONE);
        due("COSTS", lawn.cell(0, 5), 1);
        for (int slot = 0; slot < 3; slot++) {
            due("restore(" + slot + ")", lawn.restore(slot), false);
        }
        due("bytes", lawn.count(8), 0);
    }

    // ---- promises 2 to 5

    private static int feedBlanks(BandstandLawn lawn) {
        return lawn.feed(BLANKS, BLANKS, BLANKS, BLANKS, BLANKS);
    }

    private void feed() {
        says("Twenty bytes, the highest of a first, come behind the tape: how many it has");
        BandstandLawn lawn = new BandstandLawn();
        due("feed", lawn.feed(0x6c61776e, 0x35203b00, 0xff80017f, 0, -1), 20);
        due("back(14)", lawn.back(14), 6);
        due("feed", lawn.feed(0x20323b67, 0x6f657220, 0x78203120, 0x30203b20, 0x77657439), 26);
        due("read of lawn5  2;goer x 1 0 ; wet9", lawn.read(), SYNTAX);
        due("place", lawn.place(), 26);
        due("feed", lawn.feed(0x80202020, BLANKS, BLANKS, BLANKS, BLANKS), 20);
        due("read of a byte 128", lawn.read(), SYNTAX);
        due("place", lawn.place(), 0);
        due("feed", lawn.feed(BLANKS, BLANKS, BLANKS, BLANKS, 0x202020ff), 20);
        due("read of a byte 255, the lowest of e", lawn.read(), SYNTAX);
        due("place", lawn.place(), 19);

        says("NONE, and nothing comes, if it would have more than 2,000");
        for (int i = 1; i < 100; i++) {
            due("feed", feedBlanks(lawn), 20 * i);
        }
        due("feed from 1980", lawn.feed(BLANKS, BLANKS, BLANKS, 0x20776574, 0x2039393b), 2000);
        due("feed from 2000", lawn.feed(0, 0, 0, 0, 0), NONE);
        due("count(8)", lawn.count(8), 2000);
        due("read", lawn.read(), 0);
        due("the last byte was read, none behind it", lawn.count(19), 99);
        for (int i = 1; i <= 99; i++) {
            feedBlanks(lawn);
        }
        due("feed", feedBlanks(lawn), 2000);
        due("back(19)", lawn.back(19), 1981);
        due("feed from 1981", lawn.feed(0, 0, 0, 0, 0), NONE);
        due("count(8)", lawn.count(8), 1981);
        due("back(1)", lawn.back(1), 1980);
        due("feed from 1980", feedBlanks(lawn), 2000);
        due("read of blanks alone: what was refused is not there", lawn.read(), 0);
    }

    private void back() {
        says("The last n bytes of the tape go: how many it has");
        BandstandLawn lawn = new BandstandLawn();
        due("back(0)", lawn.back(0), 0);
        lawn.feed(0x77657432, 0x3b776574, 0x333b7765, 0x74343b77, 0x6574353b);
        due("back(0)", lawn.back(0), 20);
        due("back(5)", lawn.back(5), 15);
        due("read", lawn.read(), 0);
        due("the last ones went", lawn.count(19), 4);
        lawn.feed(0x77657432, 0x3b776574, 0x333b7765, 0x74343b77, 0x6574353b);
        due("back(20)", lawn.back(20), 0);
        due("read of nothing", lawn.read(), 0);
        due("WET", lawn.count(19), 0);

        says("NONE, and nothing goes, if it has not so many, or n is below 0");
        due("back(1) of nothing", lawn.back(1), NONE);
        due("back(0) of nothing", lawn.back(0), 0);
        lawn.feed(0x77657432, 0x3b776574, 0x333b7765, 0x74343b77, 0x6574353b);
        due("back(21)", lawn.back(21), NONE);
        due("back(-1)", lawn.back(-1), NONE);
        due("back(least)", lawn.back(Integer.MIN_VALUE), NONE);
        due("back(most)", lawn.back(Integer.MAX_VALUE), NONE);
        due("count(8)", lawn.count(8), 20);
        due("read", lawn.read(), 0);
        due("all was there", lawn.count(19), 5);
    }

    private void tapeRead() {
        says("The tape, which is empty then, is read: 0, or the number of its FAULT");
        BandstandLawn lawn = new BandstandLawn();
        due("read of nothing", lawn.read(), 0);
        String[] texts = {"wet 5;", "wet", times(9, "rope 0 0;"), "goer a 0 0;goer a 0 0;", "wet 101;", "rope 4 4;"};
        int[] faults = {0, SYNTAX, ROOM, TWICE, WRONG, LAWN};
        int[] places = {NONE, 3, 72, 16, 4, 9};
        for (int i = 0; i < texts.length; i++) {
            due("read of " + texts[i], Check.read(lawn, texts[i]), faults[i]);
            due("bytes behind it", lawn.count(8), 0);
            due("back(1) behind it", lawn.back(1), NONE);
        }
        says("The byte of the latest read()'s FAULT; NONE without");
        due("place of the latest", lawn.place(), 9);
        for (int i = 0; i < texts.length; i++) {
            Check.read(lawn, texts[i]);
            due("place of " + texts[i], lawn.place(), places[i]);
            lawn.beats(1);
            feedBlanks(lawn);
            lawn.back(20);
            due("place later", lawn.place(), places[i]);
        }
        due("read of nothing", lawn.read(), 0);
        due("place", lawn.place(), NONE);
        says("A TEXT has 2,000 bytes at most.");
        fine(times(1991, " ") + "lawn 3 2;");
        fault(times(1991, " ") + "lawn 3 22", SYNTAX, 2000);
        fault(times(1999, " ") + "?", SYNTAX, 1999);
        fault(times(1991, " ") + "rope 4 4;", LAWN, 2000);
        fault(times(1991, " ") + "lawn 3 6;", WRONG, 1998);
    }

    // ---- TOKENS

    private void bytes() {
        says("blanks (9, 10, 13, 32)");
        for (int sign = 0; sign < 256; sign++) {
            boolean blank = sign == 9 || sign == 10 || sign == 13 || sign == 32;
            String one = String.valueOf((char) sign);
            fault(one, blank ? 0 : SYNTAX, blank ? NONE : 0);
            fault("wet 1;" + one + "wet 2;", blank ? 0 : SYNTAX, blank ? NONE : 6);
            boolean digit = sign >= '0' && sign <= '9';
            fault("wet" + one + "3;", blank || digit ? 0 : SYNTAX, blank || digit ? NONE : isLetter(sign) ? 0 : 3);
        }
        says("with blanks (9, 10, 13, 32) between or not");
        fine("lawn\t3\n2\r;\n\r\t lawn3 2;lawn  3\t\t2  ;");
        fine("steps=(left+1)*2/3-4;moves=if(1)<(2)then(3)else(4);");
        says("SIGNS ; = + - * / < ( )");
        for (int sign = 33; sign < 256; sign++) {
            if (!isLetter(sign) && !(sign >= '0' && sign <= '9')) {
                boolean goesOn = sign == ';' || sign == '+' || sign == '-' || sign == '*' || sign == '/';
                fault("steps=1" + (char) sign, SYNTAX, goesOn ? 8 : 7, sign == ';');
            }
        }
    }

    private void fault(String text, int number, int place, boolean isFine) {
        fault(text, isFine ? 0 : number, isFine ? NONE : place);
    }

    private static boolean isLetter(int sign) {
        return sign >= 'a' && sign <= 'z';
    }

    private void names() {
        says("NAMES (letters a .. z");
        for (int sign = 33; sign < 256; sign++) {
            boolean letter = isLetter(sign);
            String name = String.valueOf((char) sign);
            fault("goer " + name + " 0 0;", letter ? 0 : SYNTAX, letter ? NONE : 5);
            boolean digit = sign >= '0' && sign <= '9';
            // a digit behind a letter is a TOKEN of its own: one INT too many
            fault("goer q" + name + " 0 0;", letter ? 0 : SYNTAX, letter ? NONE : digit ? 10 : 6);
        }
        says("8 at most");
        fine("goer a 0 0;");
        fine("goer zzzzzzzz 0 0;");
        fault("goer zzzzzzzzz 0 0;", SYNTAX, 5);
        fault("goer " + times(1000, "z") + " 0 0;", SYNTAX, 5);
        // told apart up to the eighth letter
        fine("goer aaaaaaaa 0 0;goer aaaaaaab 0 0;goer aaaaaaa 0 0;goer baaaaaaa 0 0;");
        says("none of the words in quotes");
        List<String> words = words();
        for (String word : words) {
            fault("goer " + word + " 0 0;", SYNTAX, 5);
            String shorter = word.substring(0, word.length() - 1);
            String longer = word + "z";
            String other = "z" + word.substring(1);
            fault("goer " + shorter + " 0 0;", SYNTAX, 5, !words.contains(shorter));
            fault("goer " + longer + " 0 0;", SYNTAX, 5, true);
            fault("goer " + other + " 0 0;", SYNTAX, 5, true);
        }
        fine("goer text 0 0;goer tell 0 0;goer law 0 0;goer unit 0 0;goer names 0 0;");
    }

    private static List<String> words() {
        List<String> words = new ArrayList<>(List.of(TELLS));
        words.addAll(List.of(VARS));
        words.addAll(List.of("if", "then", "else"));
        return words;
    }

    private void ints() {
        says("INTS (1 to 4 digits)");
        fine("wet 1;wet 01;wet 001;wet 0001;");
        fault("wet ;", SYNTAX, 4);
        fault("wet 00001;", SYNTAX, 4);
        fault("wet " + times(1000, "0") + ";", SYNTAX, 4);
        fine("costs = 9999;");
        fault("costs = 10000;", SYNTAX, 8);
        due("9999", check.lawn("costs = 9999-9900;").cell(0, 5), 99);
        due("0009", check.lawn("costs = 0009;").cell(0, 5), 9);
        fault("wet 1/;", SYNTAX, 5);
        fault("wet 1:;", SYNTAX, 5);
        says("A longer one, all else, is no TOKEN");
        fault("lawnlawnlawn", SYNTAX, 0);
        fault("wet123456789;", SYNTAX, 3);
        fault("goer abcdefghwet 0 0;", SYNTAX, 5);
        fault("wet 1;12345", SYNTAX, 6);
    }

    private void longestTokens() {
        says("the longest that can be");
        fault("wetwet 1;", SYNTAX, 0);
        fault("tunes 0 0 2 0;", SYNTAX, 0);
        fine("costs=tunes;");
        due("12 is one INT", check.lawn("wet12;").count(19), 12);
        fault("lawn 45;", SYNTAX, 7);
        fine("lawn4 5;");
        fault("goera 0 0;", SYNTAX, 0);
        fine("goer a0 0;");
        fine("costs=if1<2then3else4;");
        fault("costs=if1<2thenleft;", SYNTAX, 11);
        fault("costs=ifleft<2then3else4;", SYNTAX, 6);
        fault("costs=if 1<2then3elseif1<2then3else4;", SYNTAX, 17);
    }

    // ---- what a text goes on with: each TOKEN behind each beginning

    private static final String UNITS = "1 ( left top time beat moved which wide high tunes";
    private static final String[][] GO_ON = {
        {"", "lawn tune goer rope steps moves spreads costs wet seed END"},
        {"lawn", "1"}, {"lawn 2", "1"}, {"lawn 2 2", ";"},
        {"tune", "1"}, {"tune 0", "1"}, {"tune 0 0", "1"}, {"tune 0 0 2", "1"}, {"tune 0 0 2 0", ";"},
        {"goer", "ab"}, {"goer q", "1"}, {"goer q 0", "1"}, {"goer q 0 0", ";"},
        {"rope", "1"}, {"rope 0", "1"}, {"rope 0 0", ";"},
        {"steps", "="}, {"moves", "="}, {"spreads", "="}, {"costs", "="},
        {"steps =", "if " + UNITS},
        {"moves = 1", "+ - * / ;"},
        {"spreads = left", "+ - * / ;"},
        {"costs = ( 1 )", "+ - * / ;"},
        {"steps = (", UNITS},
        {"steps = ( 1", "+ - * / )"},
        {"steps = ( ( 1 )", "+ - * / )"},
        {"steps = 1 +", UNITS}, {"steps = 1 -", UNITS}, {"steps = 1 *", UNITS}, {"steps = 1 /", UNITS},
        {"steps = if", UNITS},
        {"steps = if 1", "+ - * / <"},
        {"steps = if ( 1", "+ - * / )"},
        {"steps = if 1 <", UNITS},
        {"steps = if 1 < 2", "+ - * / then"},
        {"steps = if 1 < 2 then", UNITS},
        {"steps = if 1 < 2 then 3", "+ - * / else"},
        {"steps = if 1 < 2 then 3 else", "if " + UNITS},
        {"steps = if 1 < 2 then 3 else 4", "+ - * / ;"},
        {"steps = if 1 < 2 then 3 else if", UNITS},
        {"wet", "1"}, {"wet 1", ";"}, {"seed", "1"}, {"seed 1", ";"},
        {"wet 1 ;", "lawn tune goer rope steps moves spreads costs wet seed END"},
    };

    private static List<String> allTokens() {
        List<String> tokens = words();
        tokens.addAll(List.of(SIGNS));
        tokens.addAll(List.of("1", "ab", "?", "12345", "abcdefghi"));
        return tokens;
    }

    /** TELLS of just so many TOKENS, of 3 and of 4. */
    private static String filler(int tokens) {
        StringBuilder filler = new StringBuilder();
        int fours = tokens % 3;
        filler.append(times(fours, "lawn 4 4 ; ")).append(times((tokens - 4 * fours) / 3, "wet 1 ; "));
        return filler.toString();
    }

    private static int tokensIn(String text) {
        return text.isEmpty() ? 0 : text.split(" ").length;
    }

    private void goesOn() {
        says("1 SYNTAX: a TOKEN, or what is none, with which no text goes on");
        for (String[] row : GO_ON) {
            List<String> goOn = List.of(row[1].split(" "));
            String begun = row[0].isEmpty() ? "" : row[0] + " ";
            fault(begun, goOn.contains("END") ? 0 : SYNTAX, goOn.contains("END") ? NONE : begun.length());
            for (String token : allTokens()) {
                boolean can = goOn.contains(token);
                boolean ends = can && token.equals(";");
                fault(begun + token + " ", SYNTAX, can ? begun.length() + token.length() + 1 : begun.length(), ends);
                fault(begun + token + " ?", SYNTAX, can ? begun.length() + token.length() + 1 : begun.length());
            }
        }
        says("2 ROOM: a 401st TOKEN");
        for (String[] row : GO_ON) {
            List<String> goOn = List.of(row[1].split(" "));
            String begun = row[0].isEmpty() ? "" : row[0] + " ";
            String full = filler(400 - tokensIn(row[0])) + begun;
            String fuller = filler(399 - tokensIn(row[0])) + begun;
            fault(full, SYNTAX, full.length(), goOn.contains("END"));
            for (String token : allTokens()) {
                boolean can = goOn.contains(token);
                // of one place the least: SYNTAX ahead of ROOM
                fault(full + token, can ? ROOM : SYNTAX, full.length());
                fault(full + token + " ?", can ? ROOM : SYNTAX, full.length());
                fault(fuller + token + " ?", SYNTAX, can ? fuller.length() + token.length() + 1 : fuller.length());
            }
        }
    }

    // ---- what can be told, and how far

    private void lawns() {
        says("LAWN: how WIDE, how HIGH 2 .. 5 each (4, 4; the last one)");
        for (int side = 0; side <= 9; side++) {
            boolean can = side >= 2 && side <= 5;
            fault("lawn " + side + " 3;", can ? 0 : WRONG, can ? NONE : 5);
            fault("lawn 3 " + side + ";", can ? 0 : WRONG, can ? NONE : 7);
        }
        fault("lawn 9999 1;", WRONG, 5);
        fault("lawn 10 2;", WRONG, 5);
        for (int wide = 2; wide <= 5; wide++) {
            for (int high = 2; high <= 5; high++) {
                BandstandLawn lawn = check.lawn("lawn " + wide + " " + high + ";");
                due("WIDE", lawn.count(0), wide);
                due("HIGH", lawn.count(1), high);
                due("the last cell", lawn.cell(wide * high - 1, 3), 0);
                due("no such cell", lawn.cell(wide * high, 3), NONE);
                due("all cells", lawn.count(16), (1 << wide * high) - 1);
            }
        }
        BandstandLawn lawn = check.lawn("wet 1;");
        due("WIDE, not told", lawn.count(0), 4);
        due("HIGH, not told", lawn.count(1), 4);
        lawn = check.lawn("lawn 5 2;lawn 2 3;");
        due("WIDE of the last one", lawn.count(0), 2);
        due("HIGH of the last one", lawn.count(1), 3);
    }

    private void spots(String head, String tail) {
        int at = head.length() + 1;
        for (int side = 0; side <= 9; side++) {
            boolean can = side <= 4;
            fault(head + " " + side + " 0" + tail + ";lawn 5 5;", can ? 0 : WRONG, can ? NONE : at);
            fault(head + " 0 " + side + tail + ";lawn 5 5;", can ? 0 : WRONG, can ? NONE : at + 2);
        }
        fault(head + " 9999 9999" + tail + ";lawn 5 5;", WRONG, at);
        fault(head + " 0010 0" + tail + ";lawn 5 5;", WRONG, at);
    }

    private void tunes() {
        says("TUNES, 8 at most (X, Y 0 .. 4, its BEAT 2 .. 6, its OFFSET 0 .. 5)");
        spots("tune", " 2 0");
        for (int beat = 0; beat <= 9; beat++) {
            boolean can = beat >= 2 && beat <= 6;
            fault("tune 0 0 " + beat + " 0;", can ? 0 : WRONG, can ? NONE : 9);
        }
        fault("tune 0 0 9999 9999;", WRONG, 9);
        says("an OFFSET not below the BEAT");
        for (int beat = 2; beat <= 6; beat++) {
            for (int offset = 0; offset <= 9; offset++) {
                fault("tune 0 0 " + beat + " " + offset + ";", offset < beat ? 0 : WRONG, offset < beat ? NONE : 11);
            }
            due("the highest OFFSET", check.lawn("tune 0 0 " + beat + " " + (beat - 1) + ";").cell(0, 1), beat - 1);
        }
        fault("tune 0 0 6 9999;", WRONG, 11);
        fault("tune 0 0 7 6;", WRONG, 9);
        fault("tune 0 0 1 0;", WRONG, 9);
        says("in that cell, in place of one told there ahead");
        BandstandLawn lawn = check.lawn("tune 1 2 3 2;tune 2 1 4 3;tune 1 2 6 5;tune 1 2 2 1;");
        due("TUNES", lawn.count(5), 1 << 9 | 1 << 6);
        due("BEAT", lawn.cell(9, 0), 2);
        due("OFFSET", lawn.cell(9, 1), 1);
        due("BEAT beside", lawn.cell(6, 0), 4);
        due("of a LAWN told behind it", check.lawn("tune 1 2 3 2;lawn 2 3;").count(5), 1 << 5);
    }

    private void goers() {
        says("GOERS, 5 at most (a NAME, X, Y 0 .. 4), numbered from 0 on as they stand");
        spots("goer a", "");
        BandstandLawn lawn = check.lawn("goer e 0 0;goer d 1 0;goer c 2 0;goer b 3 0;goer a 0 1;");
        due("GOERS", lawn.count(2), 5);
        for (int goer = 0; goer < 5; goer++) {
            due("where " + goer + " is", lawn.goer(goer, 0), goer);
        }
        due("goer(5, 0)", lawn.goer(5, 0), NONE);
        due("goer(-1, 0)", lawn.goer(-1, 0), NONE);
        fine("goer a 0 0;goer b 0 0;");
    }

    private void ropes() {
        says("ROPES, 8 at most: cells (X, Y 0 .. 4) that are roped off");
        spots("rope", "");
        due("rope 0 0", check.lawn("lawn 5 5;rope 0 0;").count(6), 1);
        due("rope 4 4", check.lawn("lawn 5 5;rope 4 4;").count(6), 1 << 24);
        due("one cell twice", check.lawn("rope 1 1;rope 1 1;").count(17), 1);
        due("of a LAWN told behind it", check.lawn("rope 1 2;lawn 2 3;").count(6), 1 << 5);
    }

    private void laws() {
        says("LAWS: STEPS (0), MOVES (1), SPREADS (0), COSTS (1), if not told; the last one");
        String told = "lawn 3 3;goer a 1 1;tune 1 1 2 0;wet 100;";
        BandstandLawn lawn = check.lawn(told);
        due("STEPS", lawn.goer(0, 2), 4);
        due("MOVES", lawn.goer(0, 3), 5);
        due("SPREADS", lawn.tunesIn(9), 16);
        due("COSTS", lawn.cell(4, 5), 1);
        lawn = check.lawn(told + "steps=1;moves=2;spreads=1;costs=2;steps=2;moves=3;spreads=0;costs=5;");
        due("the last STEPS", lawn.goer(0, 2), 7);
        due("the last MOVES", lawn.goer(0, 3), 3);
        due("the last SPREADS", lawn.tunesIn(9), 16);
        due("the last COSTS", lawn.cell(4, 5), 5);
        for (String law : LAWS) {
            lawn = check.lawn(told + law + "=4;");
            due(law + ": STEPS", lawn.goer(0, 2), law.equals("steps") ? 1 : 4);
            due(law + ": MOVES", lawn.goer(0, 3), law.equals("moves") ? 1 : 5);
            due(law + ": SPREADS", lawn.tunesIn(9), law.equals("spreads") ? 48 : 16);
            due(law + ": COSTS", lawn.cell(4, 5), law.equals("costs") ? 4 : 1);
        }
    }

    private void wetAndSeed() {
        says("WET: in how many of 100 cases 0 .. 100 (0)");
        due("wet 0", check.lawn("wet 0;").count(19), 0);
        due("wet 100", check.lawn("wet 100;").count(19), 100);
        fault("wet 101;", WRONG, 4);
        fault("wet 9999;", WRONG, 4);
        due("not told", check.lawn("seed 4;").count(19), 0);
        says("SEED 0 .. 9999 (0): the last one");
        fine("seed 0;seed 9999;");
        fault("seed 10000;", SYNTAX, 5);
        due("the last WET", check.lawn("wet 7;wet 8;").count(19), 8);
        // LOT 100 of time 1 and cell 0: of SEED 0 it is 29, of SEED 9999 more than 29
        String told = "lawn 2 2;tune 0 0 2 0;spreads=1;wet 30;";
        due("SEED 0", check.lawn(told + "seed 0;").tunesIn(1), 3);
        due("not told", check.lawn(told).tunesIn(1), 3);
        due("SEED 9999", check.lawn(told + "seed 9999;").tunesIn(1), 1);
        due("the last one", check.lawn(told + "seed 0;seed 9999;").tunesIn(1), 1);
        due("the last one", check.lawn(told + "seed 9999;seed 0;").tunesIn(1), 3);
    }

    // ---- FAULTS

    private void firstByPlace() {
        says("the first by its place (a byte; the text's end: its length), of one place the least");
        String full = times(8, "rope 0 0;");
        fault("? ?", SYNTAX, 0);
        fault(" \n? ?", SYNTAX, 2);
        fault(full + "?rope 0 0;", SYNTAX, 72);
        fault(full + "rope 0 0;?", ROOM, 72);
        fault(full + "rope?", ROOM, 72);
        fault(full + "steps=rope", SYNTAX, 78);
        fault("wet 1", SYNTAX, 5);
        fault("wet 1 ", SYNTAX, 6);
        fault("wet 1\n\r\t ", SYNTAX, 9);
        fault("wet", SYNTAX, 3);
        fault("steps = " + times(4, IF) + "if?", ROOM, 92);
        fault("steps = " + times(4, IF) + "1+if", SYNTAX, 94);
        says("If there is none, likewise");
        fault("wet 101;goer a 0 0;goer a 0 0;rope 4 4;?", SYNTAX, 39);
        fault("wet 101;goer a 0 0;goer a 0 0;rope 4 4;" + full, ROOM, 39 + 63);
        fault("wet 101;goer a 0 0;goer a 0 0;rope 4 4;", WRONG, 4);
        fault("goer a 0 0;goer a 0 0;wet 101;rope 4 4;", TWICE, 16);
        fault("rope 4 4;goer a 0 0;goer a 0 0;wet 101;", TWICE, 25);
        fault("rope 4 4;goer a 0 0;wet 101;goer a 0 0;", WRONG, 24);
        fault("rope 4 4;goer a 0 0;goer b 0 0;wet 100;", LAWN, 39);
        fault("wet 101;wet 102;", WRONG, 4);
        fault("lawn 6 6;", WRONG, 5);
        fault("goer a 5 5;goer a 5 5;", WRONG, 7);
        fault("goer a 0 0;goer a 5 5;", TWICE, 16);
    }

    private void tokensRoom() {
        says("2 ROOM: a 401st TOKEN");
        String sum = "costs = 1" + times(198, "+1");
        fault(sum, SYNTAX, sum.length());
        fine(sum.substring(0, sum.length() - 4) + ";lawn 4 4;");
        fault(sum.substring(0, sum.length() - 2) + ";wet 1;", ROOM, sum.length() + 4);
        fine(sum + ";");
        fault(sum + ";lawn", ROOM, sum.length() + 1);
        fault(sum + "+", SYNTAX, sum.length() + 1);
        fault(sum + "+1", ROOM, sum.length() + 1);
        fault(sum + "+1;", ROOM, sum.length() + 1);
        fault(sum + "+;", SYNTAX, sum.length() + 1);
        due("all 400 count", check.lawn("costs = 90-99+1" + times(195, "+0") + "+8;").cell(0, 5), 0);
        due("all 400 count", check.lawn("costs = 90-99+1" + times(195, "+0") + "+9;").cell(0, 5), 1);
    }

    private void sortsRoom() {
        says("one more of a sort than told (at its first TOKEN)");
        String tunes = times(8, "tune 0 0 2 0;");
        fine(tunes);
        fault(tunes + " tune 0 0 2 0;", ROOM, tunes.length() + 1);
        fault(tunes + " tune", ROOM, tunes.length() + 1);
        fault(tunes + "tunes", SYNTAX, tunes.length());
        String goers = "goer a 0 0;goer b 0 0;goer c 0 0;goer d 0 0;goer e 0 0;";
        fine(goers);
        fault(goers + "goer f 0 0;", ROOM, goers.length());
        fault(goers + "goer", ROOM, goers.length());
        String ropes = times(8, "rope 1 1;");
        fine(ropes);
        fault(ropes + "rope 1 2;", ROOM, ropes.length());
        fine(tunes + goers + ropes);
        fault(tunes + goers + ropes + "rope 1 1;", ROOM, (tunes + goers + ropes).length());
        fault(tunes + goers + ropes + "tune 1 1 2 0;", ROOM, (tunes + goers + ropes).length());
        fault(tunes + goers + ropes + "goer z 0 0;", ROOM, (tunes + goers + ropes).length());
        // of the other sorts there is no bound but that of TOKENS
        fine(times(20, "lawn 4 4;") + times(20, "wet 1;") + times(20, "seed 1;") + times(20, "costs=1;"));
        StringBuilder eight = new StringBuilder("lawn 5 5;");
        for (int i = 0; i < 8; i++) {
            eight.append("tune ").append(i % 5).append(' ').append(i / 5).append(" 6 ").append(i % 6).append(';');
            eight.append("rope ").append(i % 5).append(' ').append(4 - i / 5).append(';');
        }
        BandstandLawn lawn = check.lawn(eight.toString());
        due("8 TUNES", lawn.count(14), 8);
        due("8 ropes", lawn.count(17), 8);
    }

    private void ifsRoom() {
        says("a 5th if of a LAW (at it)");
        for (String law : LAWS) {
            String four = law + "=" + times(4, IF);
            fine(four + "1;");
            fault(four + "if", ROOM, four.length());
            fault(four + IF + "1;", ROOM, four.length());
            fault(four + "then", SYNTAX, four.length());
        }
        fine("steps=" + times(4, IF) + "1;steps=" + times(4, IF) + "1;moves=" + IF + "1;");
        due("the 4th if", check.lawn("costs=" + times(3, "if 2 < 1 then 9 else ") + IF + "8;").cell(0, 5), 3);
        due("behind the 4th", check.lawn("costs=" + times(4, "if 2 < 1 then 9 else ") + "8;").cell(0, 5), 8);
    }

    private void nestedRoom() {
        says("a 7th ( within one another (at it)");
        String[] heads = {"costs=", "costs=if ", "costs=if 1<", "costs=if 1<2 then ", "costs=if 1<2 then 3 else ",
            "costs=1*", "costs=((1))-"};
        String[] tails = {";", "<2 then 3 else 4;", " then 3 else 4;", " else 4;", ";", ";", ";"};
        for (int i = 0; i < heads.length; i++) {
            fine(heads[i] + times(6, "(") + "1" + times(6, ")") + tails[i]);
            fault(heads[i] + times(7, "(") + "1" + times(7, ")") + tails[i], ROOM, heads[i].length() + 6);
            fault(heads[i] + times(7, "("), ROOM, heads[i].length() + 6);
            fault(heads[i] + times(6, "(") + ")", SYNTAX, heads[i].length() + 6);
            fault(heads[i] + times(6, "(") + "1+(2)", ROOM, heads[i].length() + 8);
            fault(heads[i] + times(5, "(") + "1+(2)+(3)*(4?", SYNTAX, heads[i].length() + 17);
        }
        fine("costs=(((((1)+(2))+(3))+(4))+((((5)))));");
        fine("costs=((((((1))))))+((((((2))))))*((((((3))))));");
        fault("costs=((((((1))))))+(((((((2)))))));", ROOM, 26);
        due("six within", check.lawn("costs=20-(19-(18-(17-(16-(15-(14-13))))));").cell(0, 5), 4);
        due("five and one", check.lawn("costs=1+(2*(3+(4*(1+(1*(2+1))))));").cell(0, 5), 39);
    }

    private void twice() {
        says("3 TWICE: a NAME told already");
        fault("goer a 0 0;goer a 0 0;", TWICE, 16);
        fine("goer a 0 0;goer aa 0 0;goer b 0 0;");
        fault("goer a 0 0;goer b 0 0;goer c 0 0;goer d 0 0;goer a 0 0;", TWICE, 49);
        fault("goer a 0 0;goer b 0 0;goer c 0 0;goer d 0 0;goer d 0 0;", TWICE, 49);
        fault("goer a 0 0;goer b 0 0;goer b 0 0;goer a 0 0;", TWICE, 27);
        fault("goer abcdefgh 0 0;goer abcdefgh 1 0;", TWICE, 23);
        fine("goer abcdefgh 0 0;goer bbcdefgh 1 0;goer abcdefgg 0 0;goer abcdefg 0 0;");
        BandstandLawn lawn = check.lawn("goer a 0 0;");
        due("of the text ahead", Check.read(lawn, "goer a 0 0;"), 0);
        due("of a text with a FAULT", Check.read(lawn, "goer q 0 0;goer z 0 0;?"), SYNTAX);
        due("of a text with a FAULT", Check.read(lawn, "goer z 0 0;goer q 0 0;"), 0);
    }

    private void wrong() {
        says("5 WRONG (at the INT): a number not as told above");
        fault("lawn   1 3;", WRONG, 7);
        fault("lawn 3\n\n6;", WRONG, 8);
        fault("tune 0 0\t\t1 0;", WRONG, 10);
        fault("tune 0 0 2   2;", WRONG, 13);
        fault("wet 0101;", WRONG, 4);
        fault("wet 0100;", 0, NONE);
        fault("tune 5 5 7 6;", WRONG, 5);
        fault("tune 4 5 7 6;", WRONG, 7);
        fault("tune 4 4 7 6;", WRONG, 9);
        fault("tune 4 4 6 6;", WRONG, 11);
        fault("tune 4 4 6 5;", LAWN, 13);
        fault("lawn 5 5;tune 4 4 6 5;", 0, NONE);
        fine("costs=9999;steps=0;");
    }

    private void beyondTheLawn() {
        says("6 LAWN (at the text's end): a TUNE, a GOER, a ROPE beyond the LAWN");
        String[] heads = {"tune ", "goer a ", "rope "};
        String[] tails = {" 2 0;", ";", ";"};
        for (int sort = 0; sort < 3; sort++) {
            for (int wide = 2; wide <= 5; wide++) {
                for (int high = 2; high <= 5; high++) {
                    String lawn = "lawn " + wide + " " + high + ";";
                    for (int i = 0; i < 25; i++) {
                        String text = lawn + heads[sort] + i % 5 + " " + i / 5 + tails[sort];
                        boolean on = i % 5 < wide && i / 5 < high;
                        fault(text, on ? 0 : LAWN, on ? NONE : text.length());
                    }
                }
            }
        }
        fault("rope 4 0; \n", LAWN, 11);
        fault("rope 4 0;wet 1;", LAWN, 15);
        fault("rope 4 0;lawn 5 2;", 0, NONE);
        fault("lawn 5 2;rope 4 0;lawn 4 2;", LAWN, 27);
        // one told in its place is as far beyond
        fault("tune 4 0 2 0;tune 4 0 3 0;", LAWN, 26);
        says("a GOER in a cell roped off");
        fault("rope 1 2;goer a 1 2;", LAWN, 20);
        fault("goer a 1 2;rope 1 2;", LAWN, 20);
        fault("goer a 0 0;goer b 1 2;rope 0 1;rope 1 2; ", LAWN, 41);
        fine("goer a 1 2;rope 2 1;rope 1 1;rope 1 3;rope 0 2;rope 2 2;");
        fine("lawn 5 5;rope 4 0;goer a 0 1;");
        // a TUNE may be there
        fine("rope 1 2;tune 1 2 2 0;");
    }

    private void changesNothing() {
        says("A text with a FAULT changes nothing but the tape");
        String[] texts = {"lawn 2 2;goer z 0 0;tune 0 0 2 0;wet 3;costs=9;?", "lawn 2 2;" + times(9, "tune 1 1 2 0;"),
            "lawn 5 5;steps=1;moves=2;goer q 0 0;goer q 1 1;", "seed 5;wet 77;lawn 6 6;", "costs=8;goer q 4 4;rope 1 1;"};
        int[] faults = {SYNTAX, ROOM, TWICE, WRONG, LAWN};
        for (int i = 0; i < texts.length; i++) {
            BandstandLawn lawn = check.lawn("lawn 3 2;tune 1 0 2 1;goer a 0 0;goer b 1 0;rope 2 1;costs=7;"
                    + "steps=2;moves=3;spreads=1;wet 40;seed 9;");
            lawn.beats(2);
            lawn.tell(3, true);
            lawn.hold(1);
            lawn.mow(1);
            int spread = lawn.tunesIn(50);
            String before = seenButPlace(lawn);
            due("read", Check.read(lawn, texts[i]), faults[i]);
            check.same("read of " + texts[i], before, seenButPlace(lawn));
            due("tunesIn(50)", lawn.tunesIn(50), spread);
            due("undo", lawn.undo(), true);
            due("the TUNE is back", lawn.cell(1, 0), 2);
            due("restore", lawn.restore(1), true);
            due("time", lawn.count(3), 2);
            due("TOLD", lawn.fits(1, 1), 21);
        }
    }

    private static String seenButPlace(BandstandLawn lawn) {
        String seen = Check.seen(lawn);
        return seen.substring(0, seen.lastIndexOf(',') + 1) + seen.substring(seen.lastIndexOf(' '));
    }

    private void inPlaceOfTheOneAhead() {
        says("else it is in place of the one ahead: time 0, nothing moved, nothing paid; nothing can be undone, nothing is"
                + " TOLD, SLOTS hold nothing");
        BandstandLawn lawn = check.lawn("lawn 3 2;tune 1 0 2 1;goer a 0 0;goer b 1 0;rope 2 1;costs=7;steps=1;moves=3;"
                + "spreads=1;wet 40;seed 9;");
        lawn.beats(3);
        lawn.mow(1);
        lawn.tell(3, true);
        for (int slot = 0; slot < 3; slot++) {
            lawn.hold(slot);
        }
        due("moved", lawn.count(13) > 0, true);
        due("paid", lawn.count(4), 7);
        due("read", Check.read(lawn, "goer q 1 1;tune 0 0 2 0;"), 0);
        check.same("as of a new one", Check.seen(lawn), Check.seen(check.lawn("goer q 1 1;tune 0 0 2 0;")));
        due("time", lawn.count(3), 0);
        due("moved", lawn.count(13), 0);
        due("who was moved", lawn.count(18), 0);
        due("paid", lawn.count(4), 0);
        due("things done", lawn.count(9), 0);
        due("undo", lawn.undo(), false);
        due("TOLD", lawn.count(10), 0);
        due("fits(1, 0)", lawn.fits(1, 0), NONE);
        due("SLOTS", lawn.count(11), 0);
        for (int slot = 0; slot < 3; slot++) {
            due("restore(" + slot + ")", lawn.restore(slot), false);
        }
        // as much as can be told, again and again: what a text counts begins anew with each
        String full = "lawn 5 4;" + times(8, "tune 4 3 2 1;") + times(8, "rope 3 3;") + "goer a 0 0;goer b 0 1;goer c 0 2;"
                + "goer d 1 0;goer e 2 0;wet 30;seed 9999;";
        lawn = new BandstandLawn();
        for (int i = 0; i < 3; i++) {
            due("read of a full one", Check.read(lawn, full), 0);
            due("read of one more", Check.read(lawn, full + "tune 0 0 2 0;"), ROOM);
            due("read of one more", Check.read(lawn, full + "rope 0 0;"), ROOM);
            due("read of one more", Check.read(lawn, full + "goer f 0 0;"), ROOM);
        }
        for (String law : LAWS) {
            for (String other : LAWS) {
                lawnOfOneLaw(law, other);
            }
        }
        lawn = check.lawn("seed 9999;wet 30;");
        due("read, no SEED told", Check.read(lawn, "lawn 2 2;tune 0 0 2 0;spreads=1;wet 30;"), 0);
        due("SEED 0 again", lawn.tunesIn(1), 3);
        due("an empty text, too", lawn.beats(1), 1);
        due("read", lawn.read(), 0);
        due("time", lawn.count(3), 0);
        due("GOERS", lawn.count(2), 0);
        due("next(0)", lawn.next(0), NOT);
    }

    /** Of the LAWS that a text does not tell nothing is left of the texts ahead, long or short. */
    private void lawnOfOneLaw(String law, String other) {
        BandstandLawn lawn = check.lawn("wet 1;" + law + "=2;" + law + "=2;" + other + "=2;" + law + "=2;");
        String told = "lawn 3 3;goer a 1 1;tune 1 1 2 0;wet 100;" + law;
        String[] texts = {"=if 9<1 then 5 else 4;", "=4" + times(180, "+0") + ";", "=4" + times(180, "+0") + ";", "=4;"};
        for (String text : texts) {
            due("read of " + law + " alone", Check.read(lawn, told + text), 0);
            due(law + ": STEPS", lawn.goer(0, 2), law.equals("steps") ? 1 : 4);
            due(law + ": MOVES", lawn.goer(0, 3), law.equals("moves") ? 1 : 5);
            due(law + ": SPREADS", lawn.tunesIn(9), law.equals("spreads") ? 48 : 16);
            due(law + ": COSTS", lawn.cell(4, 5), law.equals("costs") ? 4 : 1);
        }
    }
}
