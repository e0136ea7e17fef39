/** Each promise of the document by hand: ordinary inputs, the edges it names, wrong inputs. */
public final class PromisesTest {
    private static final int NONE = BandstandLawn.NONE;
    private static final int NOT = -2;
    private static final int BLANKS = 0x20202020;
    private static final int[] ODD = {Integer.MIN_VALUE, -2, -1, 25, 32, 101, Integer.MAX_VALUE};

    private final Check check = new Check();

    public static void main(String[] args) {
        PromisesTest test = new PromisesTest();
        test.newObject();
        test.feedAndBack();
        test.readOrdinary();
        test.readSyntax();
        test.readRoom();
        test.readLater();
        test.readChangesNothing();
        test.readAgain();
        test.laws();
        test.cell();
        test.goer();
        test.mow();
        test.rope();
        test.carry();
        test.beats();
        test.spreading();
        test.undo();
        test.nextAndTogether();
        test.way();
        test.leave();
        test.mows();
        test.part();
        test.meet();
        test.returns();
        test.neverAndStood();
        test.loudSilenceChorus();
        test.period();
        test.centreAndFar();
        test.pairs();
        test.thenAndTunesIn();
        test.year();
        test.tellAndForget();
        test.fitsAndListen();
        test.holdAndRestore();
        test.count();
        test.wrongInputs();
        test.check.end("PromisesTest");
    }

    private void due(String call, long got, long want) {
        check.due(call, got, want);
    }

    private void due(String call, boolean got, boolean want) {
        check.due(call, got, want);
    }

    private static String times(int n, String piece) {
        return piece.repeat(n);
    }

    private void fault(String text, int number, int place) {
        check.fault(text, number, place);
    }

    // ---- 1

    private void newObject() {
        BandstandLawn lawn = new BandstandLawn();
        int[] want = {4, 4, 0, 0, 0, 0, 0, 0, 0, 0, 0, 0, 0, 0, 0, 0, 65535, 0, 0, 0};
        for (int what = 0; what < want.length; what++) {
            due("new: count(" + what + ")", lawn.count(what), want[what]);
        }
        due("new: place()", lawn.place(), NONE);
        due("new: undo()", lawn.undo(), false);
        due("new: cell(15, 5)", lawn.cell(15, 5), 1);
        due("new: cell(15, 3)", lawn.cell(15, 3), 0);
        due("new: goer(0, 0)", lawn.goer(0, 0), NONE);
        for (int slot = 0; slot < 3; slot++) {
            due("new: restore(" + slot + ")", lawn.restore(slot), false);
        }
    }

    // ---- 2, 3

    private void feedAndBack() {
        BandstandLawn lawn = new BandstandLawn();
        due("back(1) of nothing", lawn.back(1), NONE);
        due("back(0) of nothing", lawn.back(0), 0);
        for (int i = 1; i <= 100; i++) {
            due("feed " + i, lawn.feed(BLANKS, BLANKS, BLANKS, BLANKS, BLANKS), 20 * i);
        }
        due("feed beyond 2000", lawn.feed(0, 0, 0, 0, 0), NONE);
        due("count(8) when full", lawn.count(8), 2000);
        due("back(-1)", lawn.back(-1), NONE);
        due("back(2001)", lawn.back(2001), NONE);
        due("back(least)", lawn.back(Integer.MIN_VALUE), NONE);
        due("back(19)", lawn.back(19), 1981);
        due("feed to 2001", lawn.feed(0, 0, 0, 0, 0), NONE);
        due("back(1)", lawn.back(1), 1980);
        due("feed to 2000", lawn.feed(BLANKS, BLANKS, BLANKS, BLANKS, BLANKS), 2000);
        due("read of 2000 blanks", lawn.read(), 0);
        due("count(8) when read", lawn.count(8), 0);
        // "lawn 3 2;" by its bytes, the highest of each int first
        due("feed", lawn.feed(0x6c61776e, 0x20332032, 0x3b000000, 0xffffffff, 0x80000000), 20);
        due("back", lawn.back(11), 9);
        due("read", lawn.read(), 0);
        due("WIDE", lawn.count(0), 3);
        due("HIGH", lawn.count(1), 2);
        due("feed", lawn.feed(0x6c61776e, 0x20332032, 0x3b000000, 0xffffffff, 0x80000000), 20);
        due("read with a byte 0", lawn.read(), 1);
        due("place of the byte 0", lawn.place(), 9);
    }

    // ---- 4, 5

    private void readOrdinary() {
        fault("", 0, NONE);
        fault(" \t\r\n", 0, NONE);
        fault("lawn 5 5;", 0, NONE);
        fault("lawn5 5;tune4 4 6 5;goerzz 0 0;", 1, 20);
        fault("lawn5 5;tune4 4 6 5;goer zz 0 0;rope1 1;wet0;wet100;seed9999;seed 0000;", 0, NONE);
        fault("steps=if1<2then3else4;moves=left+top*time/beat-moved;spreads=(which)*wide;costs=high-tunes;", 0, NONE);
        fault("goer abcdefgh 0 0;", 0, NONE);
        fault("goer lawns 0 0;goer i 0 0;goer iff 0 0;goer els 0 0;", 0, NONE);
        BandstandLawn lawn = check.lawn("lawn 2 3;lawn 3 5;wet 4;wet 17;tune 0 0 2 1;tune 0 0 5 4;rope 2 4;rope 2 4;");
        due("the last lawn's WIDE", lawn.count(0), 3);
        due("the last lawn's HIGH", lawn.count(1), 5);
        due("the last WET", lawn.count(19), 17);
        due("BEAT in place of one told ahead", lawn.cell(0, 0), 5);
        due("OFFSET in place of one told ahead", lawn.cell(0, 1), 4);
        due("one TUNE", lawn.count(14), 1);
        due("one rope", lawn.count(6), 1 << 14);
        due("read of nothing", lawn.read(), 0);
        due("WIDE of nothing", lawn.count(0), 4);
        due("TUNES of nothing", lawn.count(5), 0);
        due("WET of nothing", lawn.count(19), 0);
    }

    private void readSyntax() {
        fault("lawn", 1, 4);
        fault("lawn ", 1, 5);
        fault("lawn 3 3", 1, 8);
        fault("lawn 3 3 3;", 1, 9);
        fault("lawn 3;", 1, 6);
        fault("lawn 33;", 1, 7);
        fault("lawn 3 3;;", 1, 9);
        fault("lawn 3 3.", 1, 8);
        fault("lawn 12345 3;", 1, 5);
        fault("lawn 00003 3;", 1, 5);
        fault("lawn 0003 0003;", 0, NONE);
        fault("lawn -3 3;", 1, 5);
        fault("Lawn 3 3;", 1, 0);
        fault("lawns 3 3;", 1, 0);
        fault("zzz", 1, 0);
        fault("7", 1, 0);
        fault("  else", 1, 2);
        fault("goer abcdefghi 0 0;", 1, 5);
        fault("goer lawn 0 0;", 1, 5);
        fault("goer tunes 0 0;", 1, 5);
        fault("goer 1 0 0;", 1, 5);
        fault("goer ab1 0 0;", 1, 11);
        fault("goer ab_ 0 0;", 1, 7);
        fault("tune 1 1 2;", 1, 10);
        fault("rope 1;", 1, 6);
        fault("wet;", 1, 3);
        fault("seed = 1;", 1, 5);
        fault("steps 1;", 1, 6);
        fault("steps = ;", 1, 8);
        fault("steps = -1;", 1, 8);
        fault("steps = 1 +;", 1, 11);
        fault("steps = 1 + + 1;", 1, 12);
        fault("steps = (1;", 1, 10);
        fault("steps = 1);", 1, 9);
        fault("steps = ();", 1, 9);
        fault("steps = 1 < 2;", 1, 10);
        fault("steps = if 1 then 2 else 3;", 1, 13);
        fault("steps = if 1 < 2 else 3;", 1, 17);
        fault("steps = if 1 < 2 then 3;", 1, 23);
        fault("steps = if 1 < 2 < 3 then 4 else 5;", 1, 17);
        fault("steps = (if 1 < 2 then 3 else 4);", 1, 9);
        fault("steps = 1 + if 1 < 2 then 3 else 4;", 1, 12);
        fault("steps = if 1 < 2 then if 1 < 2 then 3 else 4 else 5;", 1, 22);
        fault("steps = name;", 1, 8);
        fault("steps = lawn;", 1, 8);
        fault("steps = 1 2;", 1, 10);
        fault("steps = left top;", 1, 13);
        fault("steps = 1", 1, 9);
        fault("\u00ff", 1, 0);
        fault("wet 1;\u000b", 1, 6);
    }

    private void readRoom() {
        fault(times(80, "wet 1;") + times(40, "lawn 4 4;"), 0, NONE);
        fault(times(133, "wet 1;") + "wet", 1, 801);
        fault(times(133, "wet 1;") + "wet 1;", 2, 802);
        fault(times(133, "wet 1;") + "wet ;", 1, 802);
        fault(times(100, "lawn4 4;") + "wet", 2, 800);
        fault(times(100, "lawn4 4;") + "12", 1, 800);
        fault(times(100, "lawn4 4;") + " ", 0, NONE);
        fault(times(100, "lawn4 4;") + " #", 1, 801);
        fault(times(100, "lawn4 4;") + "then", 1, 800);
        fault(times(100, "lawn4 4;") + "costs = 1; wet 2; ...", 2, 800);
        fault(times(8, "tune 0 0 2 0;"), 0, NONE);
        fault(times(9, "tune 0 0 2 0;"), 2, 8 * 13);
        fault(times(8, "tune 0 0 2 0;") + " tune", 2, 8 * 13 + 1);
        fault("goer a 0 0;goer b 0 0;goer c 0 0;goer d 0 0;goer e 0 0;", 0, NONE);
        fault("goer a 0 0;goer b 0 0;goer c 0 0;goer d 0 0;goer e 0 0;goer a 0 0;", 2, 55);
        fault(times(6, "goer a 0 0;"), 2, 55);
        fault(times(8, "rope 0 0;"), 0, NONE);
        fault(times(9, "rope 0 0;"), 2, 72);
        String one = "if 1 < 2 then 3 else ";
        fault("steps = " + times(4, one) + "4;", 0, NONE);
        fault("steps = " + times(5, one) + "4;", 2, 8 + 4 * 21);
        fault("steps = " + times(4, one) + "4;moves = " + times(4, one) + "4;", 0, NONE);
        fault("steps = " + times(6, "(") + "1" + times(6, ")") + ";", 0, NONE);
        fault("steps = " + times(7, "(") + "1" + times(7, ")") + ";", 2, 14);
        fault("steps = (1)+(1)+(1)+(1)+(1)+(1)+(1)+(1);", 0, NONE);
        fault("steps = ((((((1))))))*((((((1)))))+(((((1))))));", 0, NONE);
        fault("steps = " + times(7, "("), 2, 14);
        fault("steps = " + times(6, "("), 1, 14);
        // ROOM behind a SYNTAX, and the other way round: the first by its place
        fault("steps = ;" + times(9, "rope 0 0;"), 1, 8);
        fault(times(9, "rope 0 0;") + "steps = ;", 2, 72);
    }

    private void readLater() {
        fault("goer a 0 0;goer a 1 1;", 3, 16);
        fault("goer a 0 0;goer b 0 0;goer c 0 0;goer b 9 0;goer c 0 0;", 3, 38);
        fault("goer a 0 9;goer a 1 1;", 5, 9);
        fault("lawn 1 3;", 5, 5);
        fault("lawn 6 3;", 5, 5);
        fault("lawn 3 1;", 5, 7);
        fault("lawn 3 6;", 5, 7);
        fault("lawn 2 5;lawn 5 2;", 0, NONE);
        fault("tune 5 0 2 0;", 5, 5);
        fault("tune 0 5 2 0;", 5, 7);
        fault("tune 0 0 1 0;", 5, 9);
        fault("tune 0 0 7 0;", 5, 9);
        fault("tune 0 0 0 0;", 5, 9);
        fault("tune 0 0 2 2;", 5, 11);
        fault("tune 0 0 6 6;", 5, 11);
        fault("tune 0 0 6 5;", 0, NONE);
        fault("tune 0 0 9 9;", 5, 9);
        fault("goer a 5 0;", 5, 7);
        fault("goer a 0 5;", 5, 9);
        fault("rope 5 0;", 5, 5);
        fault("rope 0 5;", 5, 7);
        fault("wet 101;", 5, 4);
        fault("wet 9999;", 5, 4);
        fault("steps = 9999;", 0, NONE);
        fault("wet 101;lawn", 1, 12);
        fault("wet 101;" + times(9, "rope 0 0;"), 2, 80);
        fault("rope 4 0;", 6, 9);
        fault("rope 0 4; ", 6, 10);
        fault("rope 4 4;lawn 5 5;", 0, NONE);
        fault("lawn 5 5;rope 4 4;lawn 5 4;", 6, 27);
        fault("tune 4 0 2 0;", 6, 13);
        fault("goer a 0 4;", 6, 11);
        fault("lawn 2 2;goer a 2 0;", 6, 20);
        fault("lawn 2 5;goer a 0 4;", 0, NONE);
        fault("goer a 1 2;rope 1 2;", 6, 20);
        fault("rope 1 2;goer a 1 2;", 6, 20);
        fault("rope 1 2;goer a 2 1;", 0, NONE);
        fault("rope 1 2;tune 1 2 2 0;", 0, NONE);
        fault("rope 4 0;wet 101;", 5, 13);
        fault("tune 4 4 2 0;goer a 0 0;goer a 0 0;", 3, 29);
    }

    private void readChangesNothing() {
        BandstandLawn lawn = check.lawn("lawn 3 2;tune 1 0 2 1;goer a 0 0;rope 2 1;costs = 7;wet 9;");
        lawn.beats(2);
        lawn.tell(3, true);
        lawn.hold(1);
        lawn.mow(1);
        int[] before = new int[20];
        for (int what = 0; what < 20; what++) {
            before[what] = lawn.count(what);
        }
        String[] texts = {"lawn 5 5;x", "goer q 2 2;" + times(9, "tune 1 1 2 0;"), "lawn 5 5;goer a 0 0;goer a 1 1;",
            "costs = 3;wet 50;lawn 9 9;", "lawn 2 2;rope 2 0;costs = 2;steps = 1;"};
        int[] faults = {1, 2, 3, 5, 6};
        int[] places = {9, 11 + 8 * 13, 25, 22, 38};
        for (int i = 0; i < texts.length; i++) {
            due("read of " + texts[i], Check.read(lawn, texts[i]), faults[i]);
            due("place", lawn.place(), places[i]);
            for (int what = 0; what < 20; what++) {
                due("count(" + what + ") behind a FAULT", lawn.count(what), before[what]);
            }
            due("cell(0, 5) behind a FAULT", lawn.cell(0, 5), 7);
            due("goer(0, 2) behind a FAULT", lawn.goer(0, 2), lawn.goer(0, 0));
        }
        due("undo behind FAULTS", lawn.undo(), true);
        due("TUNES are back", lawn.count(5), 2);
        due("fits behind FAULTS", lawn.fits(1, 1), 21);
        due("restore behind FAULTS", lawn.restore(1), true);
        due("place still", lawn.place(), 38);
        due("read", lawn.read(), 0);
        due("place without", lawn.place(), NONE);
        due("undo behind a read", lawn.undo(), false);
        due("TOLD behind a read", lawn.count(10), 0);
        due("SLOTS behind a read", lawn.restore(1), false);
        due("SLOTS behind a read", lawn.count(11), 0);
        due("time behind a read", lawn.count(3), 0);
        due("paid behind a read", lawn.count(4), 0);
        due("moved behind a read", lawn.count(13), 0);
    }

    /** A text is in place of the one ahead: nothing of that is left. */
    private void readAgain() {
        BandstandLawn lawn = new BandstandLawn();
        String full = "lawn 5 4;" + times(8, "tune 4 3 2 1;") + times(8, "rope 3 3;") + "goer a 0 0;goer b 0 1;"
                + "goer c 0 2;goer d 1 0;goer e 2 0;steps=1;moves=3;spreads=1;costs=5;wet 100;seed 77;";
        String longLaw = "costs = 1" + times(195, "+1") + ";";
        for (int i = 0; i < 4; i++) {
            due("read " + i, Check.read(lawn, full), 0);
            due("beats", lawn.beats(1), 1);
            due("read of a long law", Check.read(lawn, longLaw), 0);
            due("undo", lawn.undo(), false);
            due("its COSTS", lawn.cell(0, 5), 99);
            due("read of a FAULT", Check.read(lawn, full + "!"), 1);
            due("read of a FAULT", Check.read(lawn, full + "rope 0 0;"), 2);
            due("read of a FAULT", Check.read(lawn, "lawn 5 5;rope 4 4;wet 101;"), 5);
        }
        due("read", Check.read(lawn, "tune 0 0 2 0;goer a 1 1;wet 50;"), 0);
        due("WIDE", lawn.count(0), 4);
        due("TUNES", lawn.count(5), 1);
        due("ropes", lawn.count(6), 0);
        due("GOERS", lawn.count(2), 1);
        due("moved", lawn.count(13), 0);
        due("STEPS", lawn.goer(0, 2), 5);
        due("MOVES", lawn.goer(0, 3), 6);
        due("COSTS", lawn.cell(0, 5), 1);
        due("SPREADS", lawn.tunesIn(100), 1);
        due("read", Check.read(lawn, "tune 0 0 2 0;spreads=1;wet 29;"), 0);
        due("SEED 0", lawn.tunesIn(1), 1);
        due("read", Check.read(lawn, "tune 0 0 2 0;spreads=1;wet 30;"), 0);
        due("SEED 0", lawn.tunesIn(1), 3);
        due("read of nothing", lawn.read(), 0);
        due("COSTS", lawn.cell(0, 5), 1);
        due("TUNES", lawn.count(5), 0);
    }

    // ---- laws, asked of a cell by COSTS, of a goer by STEPS

    private void costs(String law, int want) {
        BandstandLawn lawn = check.lawn("lawn 5 3;tune 3 2 6 4;tune 0 0 2 0;goer z 3 2;costs = " + law + ";");
        lawn.beats(2);
        due("costs = " + law, lawn.cell(13, 5), want);
    }

    private void laws() {
        costs("0", 0);
        costs("99", 99);
        costs("100", 99);
        costs("0-1", 0);
        costs("left", 3);
        costs("top", 2);
        costs("time", 2);
        costs("beat", 6);
        costs("moved", 0);
        costs("which", 0);
        costs("wide", 5);
        costs("high", 3);
        costs("tunes", 2);
        costs("20-3-4", 13);
        costs("20-(3-4)", 21);
        costs("2+3*4", 14);
        costs("(2+3)*4", 20);
        costs("2*3+4*5-1", 25);
        costs("60/5/3", 4);
        costs("60/5*3", 36);
        costs("7/2*2", 6);
        costs("1-(0-7)/2", 4);
        costs("5-(0-8)/(0-3)", 3);
        // 99980001 * 43 is 4172747 behind the wrap, 99980001 * 22 is -2095407274; 2 to the 31st by -1 is itself
        costs("9999*9999*43/9999/5", 83);
        costs("0-9999*9999*22/9999/9999", 20);
        costs("0-8192*8192*32/(0-1)/8192/8192", 32);
        costs("5/0", 0);
        costs("7+0/(left-3)", 0);
        costs("if 1<2 then 3 else 1/0", 3);
        costs("if 2<1 then 1/0 else 4", 4);
        costs("if 2<2 then 3 else 4", 4);
        costs("if 1/0<2 then 3 else 4", 0);
        costs("if 1<2/0 then 3 else 4", 0);
        costs("if 1<2 then 3/0 else 4", 0);
        costs("if 0-1<0 then 3 else 4", 3);
        costs("if 2<1 then 3 else if 3<2 then 4 else if 4<3 then 5 else if 1<2 then 6 else 7", 6);
        costs("if 2<1 then 3 else if 3<2 then 4 else if 4<3 then 5 else if 2<1 then 6 else 7", 7);
        costs("if 2<1 then 3 else if 1<2 then 4 else if 1/0<3 then 5 else 1/0", 4);
        costs("((((((left))))))+1", 4);
        costs("1+2*(3+4*(5-1*(1+1*(1+1*(1+1))))) ", 15);

        BandstandLawn lawn = check.lawn("lawn 3 3;goer a 1 1;goer b 1 1;goer c 1 1;goer d 1 1;goer e 1 1;steps=which;");
        int[] want = {4, 5, 7, 3, 1};
        for (int goer = 0; goer < 5; goer++) {
            due("WAY of " + goer, lawn.goer(goer, 2), want[goer]);
        }
        int[] corner = {0, 4, 20, 24};
        int[][] there = {{0, 1, 5, 0, 0}, {4, 4, 9, 3, 4}, {20, 21, 20, 20, 15}, {24, 24, 24, 23, 19}};
        for (int way = 0; way < 5; way++) {
            BandstandLawn corners = check.lawn("lawn 5 5;goer a 0 0;goer b 4 0;goer c 0 4;goer d 4 4;steps=" + way + ";");
            for (int goer = 0; goer < 4; goer++) {
                due("WAY " + way + " from " + corner[goer], corners.goer(goer, 2), there[goer][way]);
            }
        }
        due("WAY by 7", check.lawn("lawn 3 3;goer a 1 1;steps=7;").goer(0, 2), 7);
        due("WAY below 0", check.lawn("lawn 3 3;goer a 1 1;steps=0-3;").goer(0, 2), 4);
        due("the last law", check.lawn("lawn 3 3;goer a 1 1;steps=1;steps=2;").goer(0, 2), 7);
        due("MOVES not told", check.lawn("lawn 3 3;goer a 1 1;").goer(0, 3), 5);
        due("STEPS not told", check.lawn("lawn 3 3;goer a 1 1;").goer(0, 2), 4);
    }

    // ---- 6, 7

    private void cell() {
        BandstandLawn lawn = check.lawn("lawn 3 2;tune 1 0 3 2;tune 2 1 2 0;rope 2 1;rope 2 0;goer a 0 1;goer b 1 0;"
                + "goer c 0 1;costs=10*left+top+time*20;");
        int[][] want = {{NOT, NOT, 0, 0, 0, 0}, {3, 2, 0, 0, 2, 10}, {NOT, NOT, 0, 1, 0, 20}, {NOT, NOT, 0, 0, 5, 1},
            {NOT, NOT, 0, 0, 0, 11}, {2, 0, 1, 1, 0, 21}};
        for (int cell = 0; cell < 6; cell++) {
            for (int what = 0; what < 6; what++) {
                due("cell(" + cell + ", " + what + ")", lawn.cell(cell, what), want[cell][what]);
            }
        }
        due("beats(2)", lawn.beats(2), 2);
        due("COSTS now", lawn.cell(1, 5), 50);
        due("SOUNDS now", lawn.cell(1, 2), 1);
        due("cell(6, 0)", lawn.cell(6, 0), NONE);
        due("cell(0, 6)", lawn.cell(0, 6), NONE);
        due("cell(0, -1)", lawn.cell(0, -1), NONE);
    }

    private void goer() {
        BandstandLawn lawn = check.lawn("lawn 3 2;tune 1 0 2 1;goer a 0 0;goer b 2 1;goer c 2 0;rope 1 1;"
                + "steps=if which<1 then 1 else 3;moves=2+time*0+moved;");
        due("goer(0, 0)", lawn.goer(0, 0), 0);
        due("goer(1, 0)", lawn.goer(1, 0), 5);
        due("goer(0, 2) right", lawn.goer(0, 2), 1);
        due("goer(1, 2) into a rope", lawn.goer(1, 2), 5);
        due("goer(2, 2) left", lawn.goer(2, 2), 1);
        due("goer(0, 3) down", lawn.goer(0, 3), 3);
        due("goer(1, 3) down off it", lawn.goer(1, 3), 5);
        due("goer(2, 3) down", lawn.goer(2, 3), 5);
        lawn.beats(1);
        // a, c step to cell 1, which sounds at 1, and are moved down, into the rope: nowhere, which counts
        due("goer(0, 0)", lawn.goer(0, 0), 1);
        due("goer(0, 1)", lawn.goer(0, 1), 1);
        due("goer(2, 0)", lawn.goer(2, 0), 1);
        due("goer(2, 1)", lawn.goer(2, 1), 1);
        due("goer(1, 1)", lawn.goer(1, 1), 0);
        due("goer(0, 3) by moved: left", lawn.goer(0, 3), 0);
        due("goer(0, 4)", lawn.goer(0, 4), NONE);
        due("goer(0, -1)", lawn.goer(0, -1), NONE);
        due("goer(3, 0)", lawn.goer(3, 0), NONE);
        due("goer(-1, 0)", lawn.goer(-1, 0), NONE);
    }

    // ---- 8 to 12

    private void mow() {
        BandstandLawn lawn = check.lawn("tune 1 0 3 2;tune 3 3 2 0;rope 3 3;costs=10*tunes+beat;");
        due("mow(0)", lawn.mow(0), NONE);
        due("mow(16)", lawn.mow(16), NONE);
        due("mow(-1)", lawn.mow(-1), NONE);
        due("nothing done", lawn.count(9), 0);
        due("mow(15), roped off", lawn.mow(15), 22);
        due("mow(15) again", lawn.mow(15), NONE);
        due("mow(1)", lawn.mow(1), 13);
        due("paid", lawn.count(4), 35);
        due("no TUNE", lawn.count(5), 0);
        due("still roped off", lawn.count(6), 1 << 15);
        due("things done", lawn.count(9), 2);
        lawn.undo();
        due("paid", lawn.count(4), 22);
        due("TUNES", lawn.count(5), 2);
        due("OFFSET again", lawn.cell(1, 1), 2);
    }

    private void rope() {
        BandstandLawn lawn = check.lawn("tune 1 0 3 2;tune 2 0 2 0;rope 2 0;goer a 0 0;");
        due("rope a GOER in", lawn.rope(0, true), false);
        due("let free a GOER's", lawn.rope(0, false), false);
        due("rope a TUNE in", lawn.rope(1, true), false);
        due("let free what is", lawn.rope(1, false), false);
        due("rope what is", lawn.rope(2, true), false);
        due("let free, a TUNE in it", lawn.rope(2, false), true);
        due("rope it again", lawn.rope(2, true), false);
        due("rope(16)", lawn.rope(16, true), false);
        due("rope(-1)", lawn.rope(-1, true), false);
        due("rope(3)", lawn.rope(3, true), true);
        due("rope(15)", lawn.rope(15, true), true);
        due("ropes", lawn.count(6), 8 | 1 << 15);
        due("how many ropes", lawn.count(17), 2);
        due("things done", lawn.count(9), 3);
        due("free(3)", lawn.rope(3, false), true);
        due("ropes", lawn.count(6), 1 << 15);
        BandstandLawn all = new BandstandLawn();
        for (int cell = 0; cell < 16; cell++) {
            due("rope all", all.rope(cell, true), true);
        }
        due("all roped off", all.count(17), 16);
        due("none is empty", all.count(16), 0);
    }

    private void carry() {
        BandstandLawn lawn = check.lawn("tune 1 0 3 0;rope 2 0;goer a 0 0;goer b 3 3;");
        due("carry to where they are", lawn.carry(0, 0), false);
        due("carry to a rope", lawn.carry(0, 2), false);
        due("carry(0, 16)", lawn.carry(0, 16), false);
        due("carry(0, -1)", lawn.carry(0, -1), false);
        due("carry(2, 5)", lawn.carry(2, 5), false);
        due("carry(-1, 5)", lawn.carry(-1, 5), false);
        due("nothing done", lawn.count(9), 0);
        due("carry to a TUNE that sounds", lawn.carry(0, 1), true);
        due("nobody is moved by that", lawn.goer(0, 1), 0);
        due("carry to another", lawn.carry(1, 1), true);
        due("who is there", lawn.cell(1, 4), 3);
        due("cells with a GOER", lawn.count(7), 2);
        due("undo", lawn.undo(), true);
        due("where b is", lawn.goer(1, 0), 15);
    }

    private void beats() {
        BandstandLawn lawn = check.lawn("lawn 5 2;tune 2 0 4 2;goer a 0 0;goer b 0 1;steps=1;moves=2;");
        due("beats(0)", lawn.beats(0), 0);
        due("no thing done", lawn.count(9), 0);
        due("beats(-1)", lawn.beats(-1), NONE);
        due("beats(101)", lawn.beats(101), NONE);
        due("beats(1)", lawn.beats(1), 1);
        due("a", lawn.goer(0, 0), 1);
        due("b", lawn.goer(1, 0), 6);
        due("beats(1)", lawn.beats(1), 2);
        due("a is moved down", lawn.goer(0, 0), 7);
        due("a once", lawn.goer(0, 1), 1);
        due("b", lawn.goer(1, 0), 7);
        due("b never", lawn.goer(1, 1), 0);
        due("beats(100)", lawn.beats(100), 102);
        due("a at the edge", lawn.goer(0, 0), 9);
        due("things done", lawn.count(9), 3);
        // moving is by the time that it is then, by the cell stepped into, and once
        BandstandLawn two = check.lawn("lawn 5 2;tune 1 0 2 1;tune 2 0 2 1;goer a 0 0;steps=1;moves=time;");
        two.beats(1);
        due("moved once", two.goer(0, 1), 1);
        due("moved by time 1", two.goer(0, 0), 2);
        BandstandLawn stays = check.lawn("lawn 2 2;tune 0 0 2 0;goer a 0 0;moves=0;");
        stays.beats(9);
        due("moved nowhere counts", stays.goer(0, 1), 4);
    }

    private void spreading() {
        BandstandLawn lawn = check.lawn("lawn 5 2;tune 0 0 2 1;spreads=1;wet 50;seed 0;");
        int[] seedNought = {1, 3, 7, 7, 15, 15, 31, 31};
        for (int n = 1; n < 8; n++) {
            lawn.beats(1);
            due("seed 0, behind " + n, lawn.count(5), seedNought[n]);
        }
        due("OFFSETS go on", lawn.cell(1, 1), 0);
        due("OFFSETS go on", lawn.cell(2, 1), 1);
        lawn = check.lawn("lawn 5 2;tune 0 0 2 1;spreads=1;wet 50;seed 9999;");
        lawn.beats(6);
        due("seed 9999, behind 6", lawn.count(5), 1);
        lawn.beats(1);
        due("seed 9999, behind 7", lawn.count(5), 3);
        // LOT of seed 0, time 1, cell 0 is 29
        lawn = check.lawn("lawn 5 2;tune 0 0 2 1;spreads=1;wet 29;");
        lawn.beats(1);
        due("wet 29", lawn.count(5), 1);
        lawn = check.lawn("lawn 5 2;tune 0 0 2 1;spreads=1;wet 30;");
        lawn.beats(1);
        due("wet 30", lawn.count(5), 3);
        lawn = check.lawn("lawn 5 2;tune 0 0 2 1;spreads=0;wet 100;");
        lawn.beats(9);
        due("spreads=0", lawn.count(5), 1);
        lawn = check.lawn("lawn 5 2;tune 0 0 2 1;spreads=1;wet 0;");
        lawn.beats(9);
        due("wet 0", lawn.count(5), 1);
        // by how it was ahead of any spreading: tunes is 2 for both
        lawn = check.lawn("lawn 5 2;tune 0 0 2 1;tune 0 1 3 2;spreads=3-tunes;wet 100;");
        lawn.beats(1);
        due("both spread", lawn.count(5), 3 | 3 << 5);
        due("OFFSET comes round", lawn.cell(6, 1), 0);
        due("BEAT of the same", lawn.cell(6, 0), 3);
        lawn.beats(1);
        due("none spreads more", lawn.count(5), 3 | 3 << 5);
        // no more than 8; a rope hinders none; the edge ends it
        lawn = check.lawn("lawn 3 5;tune 0 0 2 0;tune 0 1 2 0;tune 0 2 2 0;tune 0 3 2 0;tune 0 4 2 0;tune 2 4 2 0;"
                + "rope 1 0;spreads=1;wet 100;");
        lawn.beats(1);
        due("8 at most, in order", lawn.count(5), 0b101_001_001_011_011);
        due("into a rope", lawn.cell(1, 0), 2);
        lawn = check.lawn("lawn 2 2;tune 0 0 2 0;spreads=1;wet 100;");
        lawn.beats(5);
        due("not round the edge", lawn.count(5), 3);
        lawn = check.lawn("lawn 2 2;tune 0 0 2 0;tune 1 0 5 3;spreads=1;wet 100;");
        lawn.beats(5);
        due("not over a TUNE", lawn.cell(1, 0), 5);
        // by the next time, the cell's own BEAT and place
        lawn = check.lawn("lawn 3 3;tune 0 0 2 0;tune 0 1 3 0;tune 0 2 4 0;spreads=if time<2 then beat-3 else 0-1;wet 100;");
        lawn.beats(3);
        due("spreads by beat and time", lawn.count(5), 1 | 1 << 3 | 3 << 6);
    }

    private void undo() {
        BandstandLawn lawn = check.lawn("lawn 3 2;tune 0 0 2 0;goer a 0 0;spreads=1;wet 100;moves=2;costs=3;");
        lawn.beats(2);
        lawn.mow(0);
        lawn.rope(0, true);
        lawn.carry(0, 5);
        due("things done", lawn.count(9), 4);
        due("undo carry", lawn.undo(), true);
        due("a", lawn.goer(0, 0), 3);
        due("undo rope", lawn.undo(), true);
        due("ropes", lawn.count(6), 0);
        due("undo mow", lawn.undo(), true);
        due("paid", lawn.count(4), 0);
        due("TUNES", lawn.count(5), 7);
        due("undo beats", lawn.undo(), true);
        due("TUNES", lawn.count(5), 1);
        due("time", lawn.count(3), 0);
        due("a", lawn.goer(0, 0), 0);
        due("moved", lawn.goer(0, 1), 0);
        due("undo none", lawn.undo(), false);
        for (int i = 1; i <= 50; i++) {
            lawn.beats(1);
            due("can be undone", lawn.count(9), Math.min(40, i));
        }
        for (int i = 1; i <= 40; i++) {
            due("undo " + i, lawn.undo(), true);
            due("time", lawn.count(3), 50 - i);
        }
        due("the 41st", lawn.undo(), false);
        due("time", lawn.count(3), 10);
    }

    // ---- 13, 14

    private void nextAndTogether() {
        BandstandLawn lawn = check.lawn("lawn 3 3;tune 0 0 3 0;tune 1 0 5 4;tune 2 0 2 1;tune 0 1 4 2;tune 1 1 4 3;tune 2 1 6 5;");
        due("next, SOUNDS now", lawn.next(0), 3);
        due("next(1)", lawn.next(1), 4);
        due("next(2)", lawn.next(2), 1);
        due("next(6)", lawn.next(6), NOT);
        due("next, 6 on", check.lawn("tune 0 0 6 0;").next(0), 6);
        due("next(9)", lawn.next(9), NONE);
        due("together(0, 1)", lawn.together(0, 1), 9);
        due("together(1, 0)", lawn.together(1, 0), 9);
        due("together with itself", lawn.together(0, 0), 0);
        due("together with itself", lawn.together(5, 5), 5);
        due("together never", lawn.together(2, 3), NOT);
        due("together 5, 6", lawn.together(1, 5), 29);
        due("together none", lawn.together(0, 8), NOT);
        due("together none itself", lawn.together(8, 8), NOT);
        due("together(0, 9)", lawn.together(0, 9), NONE);
        due("together(-1, 0)", lawn.together(-1, 0), NONE);
        lawn.beats(3);
        due("next behind 3", lawn.next(0), 3);
        due("next behind 3", lawn.next(1), 1);
        due("together behind 3", lawn.together(0, 1), 6);
        lawn.beats(7);
        due("together behind 10", lawn.together(0, 1), 14);
    }

    // ---- 15, 16, 17

    private void way() {
        // 0 1 2 / 3 4 5, with 1 and 4 roped off but for 4: the only way leads through 4
        BandstandLawn lawn = check.lawn("lawn 3 2;rope 1 0;tune 1 1 2 0;");
        due("way(0, 2)", lawn.way(0, 2, NONE), 5);
        int[] cells = {0, 0, 3, 4, 5, 2};
        for (int i = 0; i < cells.length; i++) {
            due("way(0, 2, " + i + ")", lawn.way(0, 2, i), cells[i]);
        }
        due("way beyond", lawn.way(0, 2, 6), NONE);
        due("way(-2)", lawn.way(0, 2, -2), NONE);
        due("way to itself", lawn.way(4, 4, NONE), 0);
        due("way to itself", lawn.way(4, 4, 0), 4);
        due("way to itself", lawn.way(4, 4, 1), NONE);
        due("way from a rope", lawn.way(1, 2, NONE), NONE);
        due("way to a rope", lawn.way(0, 1, NONE), NONE);
        due("way to beyond", lawn.way(0, 6, NONE), NONE);
        due("way to what sounds at that time", lawn.way(3, 4, NONE), 1);
        lawn.beats(1);
        due("behind 1: way(3, 4)", lawn.way(3, 4, NONE), 2);
        due("behind 1: first stay", lawn.way(3, 4, 1), 3);
        // one begins in a cell that sounds, but can not stay in it
        BandstandLawn shut = check.lawn("lawn 2 2;tune 0 0 2 1;rope 1 0;rope 0 1;");
        due("no way out", shut.way(0, 3, NONE), NOT);
        due("no way out, i 0", shut.way(0, 3, 0), NOT);
        due("no way out, i 99", shut.way(0, 3, 99), NOT);
        due("but to itself", shut.way(0, 0, NONE), 0);
        // lowest cells first, among ways as short
        BandstandLawn open = check.lawn("lawn 5 5;");
        int[] lowest = {24, 19, 14, 9, 4, 3, 2, 1, 0};
        for (int i = 0; i < lowest.length; i++) {
            due("way(24, 0, " + i + ")", open.way(24, 0, i), lowest[i]);
        }
        // waiting ahead of 4, or leading round by 0 1 2: as long, and 0 is lower
        BandstandLawn round = check.lawn("lawn 3 3;tune 1 1 4 2;rope 0 2;");
        round.beats(1);
        due("way(3, 5)", round.way(3, 5, NONE), 3);
        due("way(3, 5, 1)", round.way(3, 5, 1), 3);
        due("way(3, 5, 2)", round.way(3, 5, 2), 4);
        BandstandLawn longer = check.lawn("lawn 3 2;tune 1 1 4 1;tune 2 1 4 3;");
        due("way(3, 5)", longer.way(3, 5, NONE), 4);
        due("way(3, 5, 1)", longer.way(3, 5, 1), 0);
        due("way(3, 5, 2)", longer.way(3, 5, 2), 1);
        due("way(3, 5, 3)", longer.way(3, 5, 3), 2);
        due("way(3, 5, 4)", longer.way(3, 5, 4), 5);
    }

    private void leave() {
        BandstandLawn lawn = check.lawn("lawn 3 2;rope 1 0;rope 2 0;tune 1 1 6 4;tune 2 1 2 0;");
        // 3 to 5 by 4: in 4 behind 1, in 5 behind 2, which must be odd
        due("leave(3, 5, 0)", lawn.leave(3, 5, 0), 1);
        due("leave(3, 5, 1)", lawn.leave(3, 5, 1), 2);
        due("leave to itself", lawn.leave(3, 3, 0), 0);
        due("leave to itself", lawn.leave(3, 3, 1), 0);
        due("leave(3, 5, 2)", lawn.leave(3, 5, 2), NONE);
        due("leave(3, 5, -1)", lawn.leave(3, 5, -1), NONE);
        due("leave from a rope", lawn.leave(1, 5, 0), NONE);
        due("leave to a rope", lawn.leave(3, 1, 0), NONE);
        due("leave(3, 6, 0)", lawn.leave(3, 6, 0), NONE);
        lawn.beats(2);
        // now 2: begun at 3 one would be in 4 at 4, when it sounds; at 5 it goes
        due("behind 2: leave(3, 5, 0)", lawn.leave(3, 5, 0), 3);
        due("behind 2: leave(3, 5, 1)", lawn.leave(3, 5, 1), 2);
        BandstandLawn shut = check.lawn("lawn 2 2;rope 1 0;rope 0 1;");
        due("leave none", shut.leave(0, 3, 0), NOT);
        due("leave none", shut.leave(0, 3, 1), NOT);
        due("leave none, no such what", shut.leave(0, 3, 2), NONE);
    }

    private void mows() {
        // 0 to 2 in 2 BEATS: 1 at 1, 2 at 2; in more by 3 4 5
        BandstandLawn lawn = check.lawn("lawn 3 2;tune 1 0 2 1;tune 2 0 2 0;tune 1 1 2 0;tune 2 1 3 0;");
        due("mows in 2", lawn.mows(0, 2, 2, 0), 2);
        due("mows in 2", lawn.mows(0, 2, 2, 1), 6);
        due("mows in 1", lawn.mows(0, 2, 1, 0), NOT);
        due("mows in 1", lawn.mows(0, 2, 1, 1), NOT);
        due("mows in 100", lawn.mows(0, 2, 100, 0), 0);
        due("mows in 3", lawn.mows(0, 2, 3, 0), 0);
        due("mows to itself", lawn.mows(1, 1, 0, 0), 0);
        due("mows to itself", lawn.mows(1, 1, 0, 1), 0);
        due("mows(-1)", lawn.mows(0, 2, -1, 0), NONE);
        due("mows(101)", lawn.mows(0, 2, 101, 0), NONE);
        due("mows what 2", lawn.mows(0, 2, 2, 2), NONE);
        due("mows to 6", lawn.mows(0, 6, 2, 0), NONE);
        due("nothing is mown", lawn.count(14), 4);
        // one of two will do: the least bits
        BandstandLawn two = check.lawn("lawn 2 2;tune 1 0 2 1;tune 0 1 2 1;");
        due("mows one of two", two.mows(0, 3, 2, 0), 1);
        due("mows one of two", two.mows(0, 3, 2, 1), 2);
        BandstandLawn roped = check.lawn("lawn 2 2;rope 1 0;rope 0 1;tune 0 0 2 1;");
        due("mows can not untie", roped.mows(0, 3, 100, 0), NOT);
        due("mows from a rope", roped.mows(1, 3, 100, 0), NONE);
        // 0 1 2 3 7: begun at once 1 and 2 sound, one later 7 does, two later none
        BandstandLawn few = check.lawn("lawn 4 2;tune 1 0 2 1;tune 2 0 2 0;rope 0 1;tune 3 1 2 1;rope 2 1;");
        due("mows by what is fewest", few.mows(0, 7, 4, 0), 2);
        due("mows by what is fewest", few.mows(0, 7, 4, 1), 6);
        due("mows by what is fewest", few.mows(0, 7, 5, 0), 1);
        due("mows by what is fewest", few.mows(0, 7, 5, 1), 128);
        due("mows by what is fewest", few.mows(0, 7, 6, 0), 0);
    }

    // ---- 18

    private void part() {
        BandstandLawn lawn = check.lawn("lawn 5 5;tune 1 0 2 0;goer a 0 1;");
        due("part corner", lawn.part(0, 24), 2);
        due("part corner, edge", lawn.part(0, 14), 2);
        due("part edge", lawn.part(2, 22), 3);
        due("part inner", lawn.part(6, 18), 4);
        due("part inner, one between", lawn.part(11, 13), 4);
        due("part aslant", lawn.part(6, 12), 4);
        due("part side by side", lawn.part(6, 11), NOT);
        due("part side by side", lawn.part(7, 6), NOT);
        due("part rows are not side by side", lawn.part(4, 5), 2);
        due("part one", lawn.part(6, 6), NOT);
        due("part(0, 25)", lawn.part(0, 25), NONE);
        due("part(-1, 0)", lawn.part(-1, 0), NONE);
        lawn.rope(12, true);
        due("part from a rope", lawn.part(12, 0), NONE);
        due("part a rope, side by side", lawn.part(12, 13), NONE);
        due("part a rope, itself", lawn.part(12, 12), NONE);
        due("part round a rope", lawn.part(11, 13), 3);
        BandstandLawn thin = check.lawn("lawn 5 3;rope 2 0;rope 2 2;");
        due("part by one gate", thin.part(6, 8), 1);
        thin.rope(7, true);
        due("part what is parted", thin.part(6, 8), 0);
        // two ways must be led around each other
        BandstandLawn bent = check.lawn("lawn 5 5;rope 1 1;rope 3 1;rope 1 3;rope 3 3;");
        due("part among ropes", bent.part(7, 17), 2);
    }

    // ---- 19

    private void meet() {
        BandstandLawn lawn = check.lawn("lawn 5 2;rope 0 1;rope 1 1;rope 2 1;rope 3 1;rope 4 1;tune 2 0 2 0;"
                + "goer a 0 0;goer b 4 0;goer c 3 0;goer d 3 0;");
        // both in 2 behind 2, but 2 sounds then: behind 3
        due("meet a, b", lawn.meet(0, 1, 0), 3);
        due("meet a, b", lawn.meet(0, 1, 1), 2);
        due("meet itself", lawn.meet(1, 1, 0), 0);
        due("meet itself", lawn.meet(1, 1, 1), 4);
        due("meet, one cell", lawn.meet(2, 3, 0), 0);
        due("meet, one cell", lawn.meet(2, 3, 1), 3);
        due("meet side by side", lawn.meet(1, 2, 0), 1);
        due("meet side by side: the lowest", lawn.meet(1, 2, 1), 3);
        due("meet what 2", lawn.meet(0, 1, 2), NONE);
        due("meet nobody", lawn.meet(0, 4, 0), NONE);
        due("meet nobody", lawn.meet(-1, 0, 0), NONE);
        lawn.mow(2);
        due("meet, mown", lawn.meet(0, 1, 0), 2);
        due("meet, mown", lawn.meet(0, 1, 1), 2);
        lawn.rope(2, true);
        due("meet, parted", lawn.meet(0, 1, 0), NOT);
        due("meet, parted", lawn.meet(0, 1, 1), NOT);
        due("meet, parted, itself", lawn.meet(0, 0, 0), 0);
    }

    // ---- 20, 21, 22

    private void returns() {
        // round a lawn of 2 by 2: 0 1 3 2
        String round = "steps=if top<1 then 1+left else 3+(1-left);";
        BandstandLawn lawn = check.lawn("lawn 2 2;goer a 0 0;goer b 1 1;" + round);
        due("returns", lawn.returns(0), 4);
        due("returns", lawn.returns(1), 4);
        due("returns(2)", lawn.returns(2), NONE);
        due("returns(-1)", lawn.returns(-1), NONE);
        due("returns, staying", check.lawn("goer a 0 0;").returns(0), 1);
        due("returns not", check.lawn("goer a 0 0;steps=1;").returns(0), NOT);
        String late = "lawn 2 2;goer a 0 0;steps=if time<%d then 1 else 3;";
        due("returns behind 100", check.lawn(String.format(late, 99)).returns(0), 100);
        due("returns not within 100", check.lawn(String.format(late, 100)).returns(0), NOT);
        // a TUNE would spread to cell 2 and move them back; none does here
        BandstandLawn dry = check.lawn("lawn 3 2;tune 0 0 2 1;goer a 1 0;steps=if time<2 then 1 else 0;moves=3;spreads=1;wet 100;");
        due("returns, nothing spreads", dry.returns(0), NOT);
        due("where it spreads", dry.then(0, 3, 0), 1);
    }

    private void neverAndStood() {
        BandstandLawn lawn = check.lawn("lawn 3 2;goer a 0 0;goer b 2 1;rope 1 1;steps=if which<1 then 1 else 4;");
        due("never(0)", lawn.never(0), 0b011110);
        due("never(1)", lawn.never(1), 0b011000);
        due("never(100)", lawn.never(100), 0b011000);
        due("never(-1)", lawn.never(-1), NONE);
        due("never(101)", lawn.never(101), NONE);
        due("stood at 0 in 0", lawn.stood(0, 0, 0), 1);
        due("stood at 0 in 100", lawn.stood(0, 0, 100), 1);
        due("stood at 1 in 100", lawn.stood(0, 1, 100), 1);
        due("stood at 2 in 100", lawn.stood(0, 2, 100), 99);
        due("stood at 2 in 1", lawn.stood(0, 2, 1), 0);
        due("stood b at 2 in 1", lawn.stood(1, 2, 1), 1);
        due("stood in a rope", lawn.stood(1, 4, 50), 0);
        due("stood(2)", lawn.stood(2, 0, 1), NONE);
        due("stood in 6", lawn.stood(0, 6, 1), NONE);
        due("stood in -1", lawn.stood(0, 0, -1), NONE);
        due("stood in 101", lawn.stood(0, 0, 101), NONE);
        due("nothing happened", lawn.count(3), 0);
        // moved, too
        BandstandLawn moved = check.lawn("lawn 3 2;goer a 0 0;tune 0 0 3 1;moves=2;");
        due("never, moved", moved.never(1), 0b110110);
        due("stood, moved", moved.stood(0, 3, 4), 4);
        BandstandLawn dry = check.lawn("lawn 3 2;tune 0 0 2 1;goer a 1 0;moves=2;spreads=1;wet 100;");
        due("never, nothing spreads", dry.never(9), 0b111101);
        due("stood, nothing spreads", dry.stood(0, 1, 9), 10);
        due("where it spreads", dry.then(0, 9, 0), 4);
    }

    // ---- 23, 24, 25, 26

    private void loudSilenceChorus() {
        BandstandLawn lawn = check.lawn("lawn 3 3;tune 0 0 4 0;tune 2 2 6 4;tune 1 1 4 1;rope 1 1;");
        due("loud(0)", lawn.loud(0), 1);
        due("loud(1)", lawn.loud(1), 16);
        due("loud(2)", lawn.loud(2), 0);
        due("loud(4)", lawn.loud(4), 257);
        due("loud(100)", lawn.loud(100), 257);
        due("loud(-1)", lawn.loud(-1), NONE);
        due("loud(101)", lawn.loud(101), NONE);
        // sounding: 0 1 4 5 8 9 10 12 13 16 17 20 21 22 ...: 2 3 is the first silence of 2
        due("silence", lawn.silence(0), 2);
        due("silence", lawn.silence(1), 2);
        due("chorus", lawn.chorus(0), 4);
        due("chorus", lawn.chorus(1), 2);
        lawn.beats(2);
        due("silence behind 2", lawn.silence(1), 0);
        due("chorus behind 2", lawn.chorus(0), 2);
        due("silence(2)", lawn.silence(2), NONE);
        due("silence(-1)", lawn.silence(-1), NONE);
        due("chorus(2)", lawn.chorus(2), NONE);
        due("chorus(-1)", lawn.chorus(-1), NONE);
        BandstandLawn never = check.lawn("tune 0 0 2 0;tune 1 0 2 1;");
        due("silence none", never.silence(0), 0);
        due("silence none", never.silence(1), NOT);
        due("chorus of one", never.chorus(0), 0);
        due("chorus of one", never.chorus(1), 1);
        // the longest, not the first; not what goes on beyond 59
        BandstandLawn longest = check.lawn("tune 0 0 6 5;");
        longest.beats(3);
        due("silence of 5", longest.silence(0), 5);
        due("silence of 5", longest.silence(1), 3);
        BandstandLawn rare = check.lawn("tune 0 0 5 3;tune 1 0 6 0;");
        due("chorus at 18", rare.chorus(0), 18);
        rare.beats(19);
        due("chorus at 48", rare.chorus(0), 29);
        rare.mow(0);
        rare.mow(1);
        due("silence without TUNES", rare.silence(0), 60);
        due("silence without TUNES", rare.silence(1), 0);
        due("chorus without TUNES", rare.chorus(0), 0);
        due("chorus without TUNES", rare.chorus(1), 0);
    }

    private void period() {
        due("period without", new BandstandLawn().period(), 1);
        due("period 5", check.lawn("tune 0 0 5 3;tune 1 0 5 1;").period(), 5);
        due("period 4, 6", check.lawn("tune 0 0 4 3;tune 1 0 6 1;").period(), 12);
        BandstandLawn all = check.lawn("tune 0 0 4 3;tune 1 0 6 1;tune 2 0 5 0;tune 3 0 3 0;tune 0 1 2 0;");
        due("period 60", all.period(), 60);
        all.beats(7);
        due("period 60, later", all.period(), 60);
        all.mow(2);
        due("period 12, mown", all.period(), 12);
    }

    // ---- 27, 28

    private void centreAndFar() {
        BandstandLawn lawn = check.lawn("lawn 5 3;tune 2 1 2 0;");
        due("centre", lawn.centre(0), 7);
        due("centre", lawn.centre(1), 3);
        due("centre(2)", lawn.centre(2), NONE);
        due("centre(-1)", lawn.centre(-1), NONE);
        due("far", lawn.far(0, 14), 6);
        due("far itself", lawn.far(8, 8), 0);
        due("far(0, 15)", lawn.far(0, 15), NONE);
        due("far(-1, 0)", lawn.far(-1, 0), NONE);
        lawn.rope(7, true);
        lawn.mow(7);
        lawn.rope(7, true);
        due("far round a rope", lawn.far(6, 8), 4);
        due("far to a rope", lawn.far(6, 7), 1);
        due("far from a rope", lawn.far(7, 9), 2);
        due("far of a rope to itself", lawn.far(7, 7), 0);
        due("centre beside a rope", lawn.centre(0), 2);
        due("centre beside a rope", lawn.centre(1), 4);
        BandstandLawn parted = check.lawn("lawn 3 2;rope 1 0;rope 1 1;");
        due("far none", parted.far(0, 2), NOT);
        due("far to a rope from either side", parted.far(0, 1) + parted.far(2, 1), 2);
        due("far of two ropes", parted.far(1, 4), 1);
        due("centre of parts", parted.centre(0), 0);
        due("centre of parts", parted.centre(1), 25);
        parted.rope(0, true);
        parted.rope(3, true);
        due("centre of the rest", parted.centre(0), 2);
        due("centre of the rest", parted.centre(1), 1);
        parted.rope(2, true);
        due("centre of one", parted.centre(0), 5);
        due("centre of one", parted.centre(1), 0);
        parted.rope(5, true);
        due("centre of none", parted.centre(0), NOT);
        due("centre of none", parted.centre(1), NOT);
        due("centre of none, what 2", parted.centre(2), NONE);
        due("far, all roped off", parted.far(0, 2), NOT);
        // a way as long as can be
        BandstandLawn winding = check.lawn("lawn 5 5;rope 0 1;rope 1 1;rope 2 1;rope 3 1;rope 1 3;rope 2 3;rope 3 3;rope 4 3;");
        due("far, winding", winding.far(0, 24), 16);
        due("centre, winding", winding.centre(0), 12);
        due("centre, winding", winding.centre(1), 8);
    }

    // ---- 29

    private void matched(String goers, int sum, int... with) {
        BandstandLawn lawn = check.lawn("lawn 5 5;" + goers);
        due("pairs of " + goers, lawn.pairs(NONE), sum);
        for (int i = 0; i < with.length; i++) {
            due("pairs(" + i + ") of " + goers, lawn.pairs(i), with[i]);
        }
        due("pairs beyond", lawn.pairs(with.length), NONE);
        due("pairs(-2)", lawn.pairs(-2), NONE);
    }

    private void pairs() {
        matched("", 0);
        matched("goer a 1 1;", 0, NOT);
        matched("goer a 0 0;goer b 4 3;", 7, 1, 0);
        matched("goer a 0 0;goer b 4 4;goer c 1 0;", 1, 2, NOT, 0);
        matched("goer a 0 0;goer b 0 0;goer c 0 0;", 0, 1, 0, NOT);
        matched("goer a 2 0;goer b 0 0;goer c 1 0;", 1, 2, NOT, 0);
        matched("goer a 0 0;goer b 3 0;goer c 4 0;", 1, NOT, 2, 1);
        matched("goer a 0 0;goer b 4 4;goer c 0 1;goer d 4 3;", 2, 2, 3, 0, 1);
        matched("goer a 0 0;goer b 2 0;goer c 0 2;goer d 2 2;", 4, 1, 0, 3, 2);
        // the nearest two first would be dearer
        matched("goer a 0 0;goer b 2 0;goer c 3 0;goer d 4 0;", 3, 1, 0, 3, 2);
        matched("goer a 0 0;goer b 4 0;goer c 0 4;goer d 4 4;goer e 2 2;", 8, 1, 0, 3, 2, NOT);
        matched("goer a 4 4;goer b 0 0;goer c 0 0;goer d 0 1;goer e 0 1;", 0, NOT, 2, 1, 4, 3);
    }

    // ---- 30, 31, 32

    private void thenAndTunesIn() {
        BandstandLawn lawn = check.lawn("lawn 4 2;tune 0 0 3 2;goer a 1 0;goer b 3 1;steps=0;moves=2;spreads=1;wet 100;");
        // behind 1 the tune is in 1 too, by OFFSET 0; it moves a down at 3
        due("then(0, 0, 0)", lawn.then(0, 0, 0), 1);
        due("then(0, 2, 0)", lawn.then(0, 2, 0), 1);
        due("then(0, 3, 0)", lawn.then(0, 3, 0), 5);
        due("then(0, 2, 1)", lawn.then(0, 2, 1), 0);
        due("then(0, 3, 1)", lawn.then(0, 3, 1), 1);
        due("then(0, 100, 1)", lawn.then(0, 100, 1), 1);
        due("then(1, 100, 0)", lawn.then(1, 100, 0), 7);
        due("tunesIn(0)", lawn.tunesIn(0), 1);
        due("tunesIn(2)", lawn.tunesIn(2), 7);
        due("tunesIn(100)", lawn.tunesIn(100), 15);
        due("tunesIn(-1)", lawn.tunesIn(-1), NONE);
        due("tunesIn(101)", lawn.tunesIn(101), NONE);
        due("then(2, 0, 0)", lawn.then(2, 0, 0), NONE);
        due("then(0, 101, 0)", lawn.then(0, 101, 0), NONE);
        due("then(0, -1, 0)", lawn.then(0, -1, 0), NONE);
        due("then(0, 1, 2)", lawn.then(0, 1, 2), NONE);
        due("nothing happened", lawn.count(5), 1);
        due("nothing happened", lawn.count(3), 0);
        due("beats(3)", lawn.beats(3), 3);
        due("as told", lawn.goer(0, 0), 5);
        due("so far", lawn.then(0, 0, 1), 1);
        BandstandLawn wet = check.lawn("lawn 5 2;tune 0 0 2 1;spreads=1;wet 50;seed 7;");
        int[] seven = {1, 1, 3, 3, 7, 7, 7, 15};
        for (int n = 0; n < seven.length; n++) {
            due("seed 7, tunesIn(" + n + ")", wet.tunesIn(n), seven[n]);
        }
        wet.beats(3);
        due("seed 7, behind 3, tunesIn(1)", wet.tunesIn(1), 7);
    }

    private void year() {
        BandstandLawn lawn = check.lawn("lawn 5 2;tune 0 0 2 1;spreads=1;wet 50;seed 9990;");
        due("year(1, 0, 20)", lawn.year(1, 0, 20), 0);
        due("year(0, 0, 20)", lawn.year(0, 0, 20), 20);
        due("year(1, 1, 20)", lawn.year(1, 1, 20), 10);
        due("year(1, 2, 20)", lawn.year(1, 2, 20), 13);
        due("year(1, 3, 20)", lawn.year(1, 3, 20), 16);
        due("year(2, 4, 20)", lawn.year(2, 4, 20), 12);
        due("year(2, 100, 20)", lawn.year(2, 100, 20), 20);
        due("year(5, 100, 20)", lawn.year(5, 100, 20), 0);
        due("year(1, 1, 1)", lawn.year(1, 1, 1), lawn.tunesIn(1) >> 1 & 1);
        due("year(10, 1, 1)", lawn.year(10, 1, 1), NONE);
        due("year(-1, 1, 1)", lawn.year(-1, 1, 1), NONE);
        due("year(0, 101, 1)", lawn.year(0, 101, 1), NONE);
        due("year(0, -1, 1)", lawn.year(0, -1, 1), NONE);
        due("year(0, 1, 0)", lawn.year(0, 1, 0), NONE);
        due("year(0, 1, 21)", lawn.year(0, 1, 21), NONE);
        due("nothing happened", lawn.count(14), 1);
    }

    // ---- 33 to 36

    private void tellAndForget() {
        BandstandLawn lawn = new BandstandLawn();
        due("tell(-1)", lawn.tell(-1, true), NONE);
        due("tell(60)", lawn.tell(60, true), NONE);
        for (int i = 0; i < 20; i++) {
            due("tell " + i, lawn.tell(3 * i, i % 2 == 0), i);
        }
        due("tell the 21st", lawn.tell(0, true), NONE);
        due("TOLD", lawn.count(10), 20);
        // by 0, not 3, 6, not 9 ..: 2,0 and 6,0
        due("fits(20, 0)", lawn.fits(20, 0), 2);
        due("fits(20, 1)", lawn.fits(20, 1), 20);
        due("forget", lawn.forget(), 20);
        due("forget nothing", lawn.forget(), 0);
        due("TOLD", lawn.count(10), 0);
        due("tell again", lawn.tell(59, false), 0);
        lawn.beats(1);
        lawn.hold(0);
        lawn.tell(5, true);
        lawn.undo();
        lawn.restore(0);
        due("what is TOLD is neither undone nor held", lawn.count(10), 2);
    }

    private void fitsAndListen() {
        BandstandLawn lawn = new BandstandLawn();
        due("fits(0, 0)", lawn.fits(0, 0), 20);
        due("fits(0, 1)", lawn.fits(0, 1), 20);
        // any one time: 5 sound, 15 do not: the first
        due("listen(0)", lawn.listen(0), 0);
        due("fits(1, 0)", lawn.fits(1, 0), NONE);
        due("listen(1)", lawn.listen(1), NONE);
        due("listen(-1)", lawn.listen(-1), NONE);
        due("fits(-1, 0)", lawn.fits(-1, 0), NONE);
        due("fits(0, 2)", lawn.fits(0, 2), NONE);
        due("fits(0, -1)", lawn.fits(0, -1), NONE);
        lawn.tell(7, false);
        due("fits(1, 0)", lawn.fits(1, 0), 15);
        due("fits(1, 1)", lawn.fits(1, 1), 20);
        due("fits(0, 0) still", lawn.fits(0, 0), 20);
        lawn.tell(6, false);
        // left: 3,2 4,0 4,1 5,0 5,3 5,4 6,2 6,3 6,4 6,5
        due("fits(2, 0)", lawn.fits(2, 0), 10);
        due("fits(2, 1)", lawn.fits(2, 1), 32);
        lawn.tell(7, true);
        due("fits(3, 0) of what can not be", lawn.fits(3, 0), 0);
        due("fits(3, 1)", lawn.fits(3, 1), NOT);
        due("listen(3)", lawn.listen(3), NOT);
        lawn.forget();
        lawn.tell(59, true);
        lawn.tell(53, true);
        // the difference 6: 2,1 3,2 6,5
        due("fits(2, 0)", lawn.fits(2, 0), 3);
        due("fits(2, 1)", lawn.fits(2, 1), 21);
        due("listen(2): 1 parts 2,1 from two", lawn.listen(2), 1);
        lawn.tell(50, true);
        due("one is left", lawn.fits(3, 1), 32);
        due("listen(3) when one is left", lawn.listen(3), 0);
        // each tune alone, told by a whole round
        for (int beat = 2; beat <= 6; beat++) {
            for (int offset = 0; offset < beat; offset++) {
                lawn.forget();
                for (int time = 0; time < 20; time++) {
                    lawn.tell(time, time % beat == offset);
                }
                due("one fits", lawn.fits(20, 0), 1);
                due("which fits", lawn.fits(20, 1), 10 * beat + offset);
            }
        }
    }

    // ---- 37, 38

    private void holdAndRestore() {
        BandstandLawn lawn = check.lawn("lawn 3 2;tune 0 0 2 0;goer a 0 0;moves=2;costs=4;");
        due("hold(-1)", lawn.hold(-1), false);
        due("hold(3)", lawn.hold(3), false);
        due("restore(0)", lawn.restore(0), false);
        due("hold(0)", lawn.hold(0), true);
        due("no thing done", lawn.count(9), 0);
        lawn.beats(2);
        lawn.mow(0);
        lawn.rope(1, true);
        due("hold(2)", lawn.hold(2), true);
        due("SLOTS", lawn.count(11), 2);
        due("restore(1)", lawn.restore(1), false);
        due("restore(3)", lawn.restore(3), false);
        due("restore(-1)", lawn.restore(-1), false);
        due("restore(32)", lawn.restore(32), false);
        due("nothing happened", lawn.count(9), 3);
        due("feed", lawn.feed(BLANKS, BLANKS, BLANKS, BLANKS, BLANKS), 20);
        due("restore(0)", lawn.restore(0), true);
        due("the tape stays", lawn.count(8), 20);
        due("time", lawn.count(3), 0);
        due("paid", lawn.count(4), 0);
        due("TUNES", lawn.count(5), 1);
        due("ropes", lawn.count(6), 0);
        due("a", lawn.goer(0, 0), 0);
        due("moved", lawn.count(13), 0);
        due("undo", lawn.undo(), false);
        lawn.carry(0, 4);
        due("undo", lawn.undo(), true);
        due("restore(2)", lawn.restore(2), true);
        due("time", lawn.count(3), 2);
        due("paid", lawn.count(4), 4);
        due("ropes", lawn.count(6), 2);
        due("a", lawn.goer(0, 0), 3);
        due("moved", lawn.count(13), 1);
        lawn.beats(5);
        due("it stays there", lawn.restore(2), true);
        due("time", lawn.count(3), 2);
        due("hold(0) anew", lawn.hold(0), true);
        due("SLOTS", lawn.count(11), 2);
        lawn.beats(1);
        due("restore(0)", lawn.restore(0), true);
        due("time", lawn.count(3), 2);
    }

    // ---- 39

    private void count() {
        BandstandLawn lawn = check.lawn("lawn 5 2;tune 0 0 2 1;tune 4 1 3 0;tune 3 1 3 1;rope 3 1;rope 1 1;goer a 0 0;"
                + "goer b 1 0;goer c 0 0;costs=60-left-40*top;moves=0;wet 33;");
        lawn.feed(0, 0, 0, 0, 0);
        lawn.beats(3);
        lawn.mow(9);
        lawn.tell(0, true);
        lawn.hold(2);
        lawn.hold(1);
        int[] want = {5, 2, 3, 3, 16, 1 | 1 << 8, 1 << 6 | 1 << 8, 3, 20, 2, 1, 2, 1, 4, 2, 60 + 17, 0b1010111100, 2, 5,
            33};
        for (int what = 0; what < 20; what++) {
            due("count(" + what + ")", lawn.count(what), want[what]);
        }
        due("count(20)", lawn.count(20), NONE);
        due("count(-1)", lawn.count(-1), NONE);
    }

    // ---- no call may throw, or change anything, by wrong inputs

    private void wrongInputs() {
        for (int a : ODD) {
            BandstandLawn lawn = check.lawn("lawn 5 5;tune 0 0 2 1;tune 4 4 3 0;rope 1 1;goer a 0 0;goer b 4 4;steps=time;");
            for (int b : ODD) {
                due("cell", lawn.cell(a, b), NONE);
                due("goer", lawn.goer(a, b), NONE);
                due("carry", lawn.carry(a, b), false);
                due("together", lawn.together(a, b), NONE);
                due("part", lawn.part(a, b), NONE);
                due("far", lawn.far(a, b), NONE);
                due("way", lawn.way(a, b, 0), NONE);
                due("leave", lawn.leave(a, b, 0), NONE);
                due("mows", lawn.mows(a, b, 5, 0), NONE);
                due("meet", lawn.meet(a, b, 0), NONE);
                due("stood", lawn.stood(a, b, 0), NONE);
                due("then", lawn.then(a, 1, b), NONE);
                due("year", lawn.year(a, 1, b), NONE);
                due("fits", lawn.fits(a, b), NONE);
            }
            due("mow", lawn.mow(a), NONE);
            due("rope", lawn.rope(a, true), false);
            due("rope", lawn.rope(a, false), false);
            due("next", lawn.next(a), NONE);
            due("returns", lawn.returns(a), NONE);
            due("hold", lawn.hold(a), false);
            due("restore", lawn.restore(a), false);
            due("listen", lawn.listen(a), NONE);
            due("count", lawn.count(a), NONE);
            due("silence", lawn.silence(a), NONE);
            due("chorus", lawn.chorus(a), NONE);
            due("centre", lawn.centre(a), NONE);
            if (a != 25 && a != 32) {
                due("beats", lawn.beats(a), NONE);
                due("never", lawn.never(a), NONE);
                due("loud", lawn.loud(a), NONE);
                due("tunesIn", lawn.tunesIn(a), NONE);
                due("tell", lawn.tell(a, true), NONE);
                due("back", lawn.back(a), NONE);
            }
            if (a != NONE) {
                due("pairs", lawn.pairs(a), NONE);
            }
            due("nothing was done", lawn.count(9), 0);
        }
    }
}
