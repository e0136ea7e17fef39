/** Part II of the document and promises 6 to 12, 37 to 39: what is and what is done, each bound from either side. */
public final class LawnBoundsTest {
    private static final int NONE = BandstandLawn.NONE;
    private static final int NOT = -2;
    /** 2147483647 by INTS of a text, and one more, which is the least. */
    private static final String MOST = "(9999*9999*21+9999*4790+8416)";
    private static final String LEAST = "(9999*9999*21+9999*4790+8417)";

    private final Check check = new Check();

    public static void main(String[] args) {
        LawnBoundsTest test = new LawnBoundsTest();
        test.numbers();
        test.sounds();
        test.firstIf();
        test.wraps();
        test.dividedByNought();
        test.variables();
        test.askedOfACellAlone();
        test.ways();
        test.stays();
        test.costsHeld();
        test.lots();
        test.stepsOfABeat();
        test.movesOfABeat();
        test.spreads();
        test.spreadsWhere();
        test.spreadsRoom();
        test.cell();
        test.goer();
        test.mow();
        test.rope();
        test.carry();
        test.beats();
        test.undo();
        test.hold();
        test.restore();
        test.count();
        test.check.end("LawnBoundsTest");
    }

    private void says(String words) {
        check.says(words);
    }

    private void due(String call, long got, long want) {
        check.due(call, got, want);
    }

    private void due(String call, boolean got, boolean want) {
        check.due(call, got, want);
    }

    private BandstandLawn lawn(String text) {
        return check.lawn(text);
    }

    private static String times(int n, String piece) {
        return piece.repeat(n);
    }

    private static String tune(int x, int y, int beat, int offset) {
        return "tune " + x + " " + y + " " + beat + " " + offset + ";";
    }

    // ---- part II

    private void numbers() {
        says("A cell's number: WIDE * Y + X");
        for (int wide = 2; wide <= 5; wide++) {
            for (int high = 2; high <= 5; high++) {
                for (int i = 0; i < wide * high; i++) {
                    BandstandLawn lawn = lawn("lawn " + wide + " " + high + ";goer a " + i % wide + " " + i / wide + ";"
                            + tune(i % wide, i / wide, 2, 0));
                    due("where the GOER is", lawn.goer(0, 0), i);
                    due("where the TUNE is", lawn.count(5), 1 << i);
                }
            }
        }
        due("the rope of 0 1", lawn("lawn 5 2;rope 0 1;").count(6), 1 << 5);
        due("the rope of 4 0", lawn("lawn 5 2;rope 4 0;").count(6), 1 << 4);
    }

    private void sounds() {
        says("A TUNE SOUNDS at a time that, by its BEAT, leaves the OFFSET");
        for (int beat = 2; beat <= 6; beat++) {
            StringBuilder text = new StringBuilder("lawn 5 2;");
            for (int offset = 0; offset < beat; offset++) {
                text.append(tune(offset % 5, offset / 5, beat, offset));
            }
            BandstandLawn lawn = lawn(text.toString());
            for (int time = 0; time < 14; time++) {
                for (int offset = 0; offset < beat; offset++) {
                    due("SOUNDS at " + time, lawn.cell(offset, 2), time % beat == offset ? 1 : 0);
                }
                due("SOUNDS at " + time, lawn.count(12), 1 << time % beat);
                lawn.beats(1);
            }
            for (int i = 0; i < 5; i++) {
                lawn.beats(100);
            }
            due("SOUNDS at 514", lawn.count(12), 1 << 514 % beat);
        }
    }

    /** COSTS of cell 6 (left 1, top 1) of a lawn of 5 by 3. */
    private int costs(String law) {
        return lawn("lawn 5 3;costs=" + law + ";").cell(6, 5);
    }

    private void costs(String law, int want) {
        due("costs=" + law, costs(law), want);
    }

    private void firstIf() {
        says("the E of the first if that holds (one less than the other), else the last one");
        costs("if 4<5 then 7 else 8", 7);
        costs("if 5<5 then 7 else 8", 8);
        costs("if 6<5 then 7 else 8", 8);
        costs("if 0-1<0 then 7 else 8", 7);
        costs("if 0<0-1 then 7 else 8", 8);
        costs("if " + LEAST + "<" + MOST + " then 7 else 8", 7);
        costs("if " + MOST + "<" + LEAST + " then 7 else 8", 8);
        for (int first = 0; first <= 4; first++) {
            StringBuilder law = new StringBuilder();
            for (int i = 0; i < 4; i++) {
                law.append("if 5<").append(i < first ? 5 : 6).append(" then ").append(10 + i).append(" else ");
            }
            costs(law + "50", first < 4 ? 10 + first : 50);
        }
    }

    private void wraps() {
        says("ints of 32 bits that wrap");
        costs("if 0<" + MOST + " then 7 else 8", 7);
        costs("if " + MOST + "+1<0 then 7 else 8", 7);
        costs("if 0-" + MOST + "-1<0 then 7 else 8", 7);
        costs("if 0<0-" + MOST + "-2 then 7 else 8", 7);
        costs("0-" + MOST + "-2-" + MOST, 0);
        costs("0-" + MOST + "-2-" + MOST + "+5", 5);
        costs("256*256*256*128/256/256/128+257", 1);
        costs("256*256*256*256", 0);
        costs("256*256*256*256+9", 9);
        // 2 to the 31st, by -1, is 2 to the 31st again: below 0
        costs("if " + LEAST + "/(0-1)<0 then 7 else 8", 7);
        costs("if " + LEAST + "*(0-1)<0 then 7 else 8", 7);
        costs("if " + MOST + "/(0-1)<0 then 7 else 8", 7);
        costs("if 9999*9999*9999<9999*9999 then 7 else 8", 9999 * 9999 * 9999 < 9999 * 9999 ? 7 : 8);
        says("/ rounded towards 0");
        costs("7/2", 3);
        costs("8/2", 4);
        costs("1/2", 0);
        costs("10+(0-7)/2", 7);
        costs("10+7/(0-2)", 7);
        costs("10+(0-7)/(0-2)", 13);
        costs("10+(0-1)/2", 10);
        costs("10+(0-8)/2", 6);
    }

    private void dividedByNought() {
        says("a LAW in which something that is looked at is divided by 0 is 0");
        String[] nought = {"1/0", "0/0", "5+1/0", "1/0+5", "0*(1/0)+5", "1/(1-1)", "1/(left-1)", "5+(2/(3/4))",
            "if 1/0<5 then 7 else 8", "if 1<5/0 then 7 else 8", "if 1<2 then 7/0 else 8", "if 2<1 then 7 else 8/0",
            "if 2<1 then 7 else if 1/0<2 then 8 else 9", "if 2<1 then 7 else if 1<2 then 8/0 else 9", "9999/(wide-5)"};
        for (String law : nought) {
            costs(law, 0);
        }
        costs("1/1+5", 6);
        costs("if 1<2 then 7 else 8/0", 7);
        costs("if 2<1 then 7/0 else 8", 8);
        costs("if 1<2 then 7 else if 1/0<2 then 8 else 9/0", 7);
        costs("if 2<1 then 7/0 else if 1<2 then 8 else 9/0", 8);
        costs("if 2<1 then 7/0 else if 2<1 then 8/0 else 9", 9);
        costs("1/(left-2)+5", 4);
        costs("if 0/5<1 then 7 else 8", 7);
        BandstandLawn lawn = lawn("lawn 3 3;goer a 1 1;tune 1 1 2 0;wet 100;steps=3+1/0;moves=3+1/0;spreads=3+1/0;");
        due("STEPS", lawn.goer(0, 2), 4);
        due("MOVES", lawn.goer(0, 3), 4);
        due("SPREADS", lawn.tunesIn(5), 16);
        due("beats(2)", lawn.beats(2), 2);
        due("moved, nowhere", lawn.goer(0, 1), 1);
    }

    private void variables() {
        says("left, top: X, Y of the cell; time; beat: the BEAT of the TUNE in the cell (none: 0)");
        for (int wide = 2; wide <= 5; wide++) {
            String told = "lawn " + wide + " 5;tune 1 4 6 5;tune 0 0 2 1;";
            BandstandLawn left = lawn(told + "costs=left;");
            BandstandLawn top = lawn(told + "costs=top;");
            BandstandLawn beat = lawn(told + "costs=beat;");
            for (int cell = 0; cell < 5 * wide; cell++) {
                due("left", left.cell(cell, 5), cell % wide);
                due("top", top.cell(cell, 5), cell / wide);
                due("beat", beat.cell(cell, 5), cell == 0 ? 2 : cell == 4 * wide + 1 ? 6 : 0);
            }
        }
        BandstandLawn time = lawn("costs=time;");
        for (int i = 0; i <= 98; i += 49) {
            due("time", time.cell(0, 5), i);
            time.beats(49);
        }
        BandstandLawn late = lawn("costs=time-400;");
        for (int i = 0; i < 4; i++) {
            late.beats(100);
        }
        due("time 400", late.cell(0, 5), 0);
        late.beats(1);
        due("time 401", late.cell(0, 5), 1);
        says("moved: how often the GOER was moved so far; which: the GOER's number");
        BandstandLawn moved = lawn("lawn 3 3;goer a 1 1;goer b 0 0;tune 1 1 2 0;steps=moved;moves=0;");
        int[] there = {4, 5, 7, 3, 1};
        for (int i = 0; i < 5; i++) {
            due("moved " + moved.goer(0, 1), moved.goer(0, 2), there[i]);
            due("b was never", moved.goer(1, 2), 0);
            beMovedOnce(moved);
        }
        BandstandLawn which = lawn("lawn 3 3;goer a 1 1;goer b 1 1;goer c 1 1;goer d 1 1;goer e 1 1;steps=which;");
        for (int goer = 0; goer < 5; goer++) {
            due("which", which.goer(goer, 2), there[goer]);
        }
        says("wide, high; tunes: how many cells have one");
        for (int side = 2; side <= 5; side++) {
            due("wide", lawn("lawn " + side + " 3;costs=wide;").cell(0, 5), side);
            due("high", lawn("lawn 3 " + side + ";costs=high;").cell(0, 5), side);
        }
        StringBuilder text = new StringBuilder("lawn 5 2;costs=tunes;tune 0 0 2 1;");
        for (int i = 0; i <= 6; i++) {
            due("tunes", lawn(text.toString()).cell(9, 5), 1 + i);
            text.append(tune((i + 1) % 5, (i + 1) / 5, 2, 0));
        }
        due("8 tunes", lawn(text.toString()).cell(9, 5), 8);
        due("no tunes", lawn("costs=tunes;").cell(0, 5), 0);
        due("two told of one cell", lawn("costs=tunes;tune 0 0 2 0;tune 0 0 3 0;").cell(0, 5), 1);
        BandstandLawn mown = lawn("costs=tunes*10+beat;tune 0 0 2 0;tune 1 0 3 0;");
        due("mow(0)", mown.mow(0), 22);
        due("tunes, mown", mown.cell(1, 5), 13);
        due("beat, mown", mown.cell(0, 5), 10);
    }

    /** Carries the first GOER to where their step leads into cell 4, till it SOUNDS then; and back into it. */
    private static void beMovedOnce(BandstandLawn lawn) {
        int was = lawn.goer(0, 1);
        for (int i = 0; i < 9 && lawn.goer(0, 1) == was; i++) {
            int way = was % 5;
            lawn.carry(0, way == 1 ? 3 : way == 2 ? 1 : way == 3 ? 5 : way == 4 ? 7 : 4);
            lawn.beats(1);
        }
        lawn.carry(0, 4);
    }

    private void askedOfACellAlone() {
        says("asked of a cell alone (SPREADS, COSTS) moved, which: 0");
        BandstandLawn lawn = lawn("lawn 3 2;goer a 0 1;goer b 0 0;tune 0 0 2 0;moves=0;costs=5+10*moved+20*which;"
                + "spreads=moved+which;wet 100;");
        lawn.beats(7);
        due("b was moved", lawn.goer(1, 1), 3);
        due("COSTS", lawn.cell(0, 5), 5);
        due("all COSTS", lawn.count(15), 5);
        due("SPREADS", lawn.count(5), 1);
        due("mow(0)", lawn.mow(0), 5);
    }

    private void ways() {
        says("A WAY to go by a LAW (below 0: 0): its rest by 5: 0 to stay, 1 right, 2 down, 3 left, 4 up");
        int[] there = {4, 5, 7, 3, 1};
        for (int value = -6; value <= 11; value++) {
            String law = value < 0 ? "0-" + -value : String.valueOf(value);
            BandstandLawn lawn = lawn("lawn 3 3;goer a 1 1;steps=" + law + ";moves=" + law + ";");
            due("STEPS " + value, lawn.goer(0, 2), there[Math.max(0, value) % 5]);
            due("MOVES " + value, lawn.goer(0, 3), there[Math.max(0, value) % 5]);
        }
        due("9999", lawn("lawn 3 3;goer a 1 1;steps=9999;").goer(0, 2), 1);
        due("the most", lawn("lawn 3 3;goer a 1 1;steps=" + MOST + ";").goer(0, 2), 7);
        due("the least", lawn("lawn 3 3;goer a 1 1;steps=" + LEAST + ";").goer(0, 2), 4);
        due("the least and 1", lawn("lawn 3 3;goer a 1 1;moves=" + LEAST + "+1;").goer(0, 3), 4);
    }

    private void stays() {
        says("beyond the LAWN, into a cell roped off: to stay");
        for (int wide = 2; wide <= 5; wide++) {
            for (int high = 2; high <= 5; high++) {
                BandstandLawn lawn = lawn("lawn " + wide + " " + high + ";goer a 0 0;goer b 0 0;goer c 0 0;goer d 0 0;"
                        + "goer e 0 0;steps=which;moves=which;");
                for (int cell = 0; cell < wide * high; cell++) {
                    int x = cell % wide;
                    int y = cell / wide;
                    int[] want = {cell, x < wide - 1 ? cell + 1 : cell, y < high - 1 ? cell + wide : cell,
                        x > 0 ? cell - 1 : cell, y > 0 ? cell - wide : cell};
                    for (int way = 0; way < 5; way++) {
                        lawn.carry(way, cell);
                        due("WAY " + way + " from " + cell, lawn.goer(way, 2 + cell % 2), want[way]);
                    }
                }
            }
        }
        for (int way = 1; way < 5; way++) {
            int to = new int[] {4, 5, 7, 3, 1}[way];
            BandstandLawn lawn = lawn("lawn 3 3;goer a 1 1;steps=" + way + ";moves=" + way + ";");
            for (int cell = 0; cell < 9; cell++) {
                due("rope", lawn.rope(cell, true), cell != 4);
            }
            due("STEPS into a rope", lawn.goer(0, 2), 4);
            due("MOVES into a rope", lawn.goer(0, 3), 4);
            due("let free", lawn.rope(to, false), true);
            due("STEPS where none is", lawn.goer(0, 2), to);
            due("MOVES where none is", lawn.goer(0, 3), to);
            lawn.beats(1);
            due("gone there", lawn.goer(0, 0), to);
        }
    }

    private void costsHeld() {
        says("COSTS, held to 0 .. 99");
        costs("0-1", 0);
        costs("0", 0);
        costs("1", 1);
        costs("98", 98);
        costs("99", 99);
        costs("100", 99);
        costs("9999", 99);
        costs(MOST, 99);
        costs(LEAST, 0);
        BandstandLawn lawn = lawn("tune 0 0 2 0;tune 1 0 2 0;tune 2 0 2 0;costs=if left<1 then 0-5 else 98+left;");
        due("COSTS of all", lawn.count(15), 0 + 99 + 99);
        due("mow(0)", lawn.mow(0), 0);
        due("mow(1)", lawn.mow(1), 99);
        due("mow(2)", lawn.mow(2), 99);
        due("paid", lawn.count(4), 198);
    }

    /** Whether of cell x, y the TUNE spreads in that BEAT which leads to a time, by WET. */
    private int spreadBehind(int x, int y, int time, int seed, int wet) {
        BandstandLawn lawn = lawn("lawn 5 5;" + tune(x, y, 2, 0) + "spreads=time-" + (time - 1) + ";wet " + wet + ";seed "
                + seed + ";");
        int told = lawn.tunesIn(time);
        due("year", lawn.year(5 * y + x + 1, time, 1), Integer.bitCount(told) - 1);
        lawn.beats(time);
        due("tunesIn", lawn.count(5), told);
        return Integer.bitCount(told) - 1;
    }

    private void lots() {
        says("LOT 100 of the SEED and 32 * the time and the cell's number is less than WET");
        // x, y, time, SEED, and its LOT, reckoned apart from the class
        int[][] rows = {{0, 0, 1, 198, 0}, {0, 0, 1, 25, 99}, {0, 0, 1, 62, 50}, {0, 0, 1, 0, 29}, {0, 0, 1, 1, 76},
            {0, 0, 1, 9999, 92}, {3, 4, 1, 73, 0}, {3, 4, 1, 125, 99}, {3, 4, 1, 169, 50}, {3, 4, 1, 0, 91},
            {3, 4, 1, 1, 2}, {3, 4, 1, 9999, 49}, {2, 1, 100, 58, 0}, {2, 1, 100, 308, 99}, {2, 1, 100, 40, 50},
            {2, 1, 100, 0, 61}, {2, 1, 100, 1, 19}, {2, 1, 100, 9999, 97}};
        for (int[] row : rows) {
            due("WET " + row[4], spreadBehind(row[0], row[1], row[2], row[3], row[4]), 0);
            due("WET " + (row[4] + 1), spreadBehind(row[0], row[1], row[2], row[3], row[4] + 1), 1);
        }
        due("never by WET 0", lawn("lawn 5 2;tune 0 0 2 0;spreads=1;seed 198;").tunesIn(100), 1);
        due("ever by WET 100", lawn("lawn 5 2;tune 0 0 2 0;spreads=1;seed 25;wet 100;").tunesIn(1), 3);
    }

    private void stepsOfABeat() {
        says("each GOER goes one WAY by STEPS of their cell, all by how it was as it began. Then it is the next time");
        BandstandLawn lawn = lawn("lawn 5 2;goer a 0 0;goer b 0 1;steps=time;");
        lawn.beats(1);
        due("by time 0", lawn.goer(0, 0), 0);
        lawn.beats(1);
        due("by time 1", lawn.goer(0, 0), 1);
        due("by time 1", lawn.goer(1, 0), 6);
        // each by its own cell, though a comes to where b was
        lawn = lawn("lawn 5 2;goer a 0 0;goer b 1 0;goer c 4 0;steps=if left<1 then 1 else 2;");
        lawn.beats(1);
        due("a from 0", lawn.goer(0, 0), 1);
        due("b from 1", lawn.goer(1, 0), 6);
        due("c from 4", lawn.goer(2, 0), 9);
        says("Then each GOER in whose cell a TUNE SOUNDS (at that time) is moved one WAY by MOVES of that cell");
        // 1 SOUNDS at 1: who steps into it then is moved; who leaves it is not
        lawn = lawn("lawn 5 2;goer a 0 0;goer b 1 0;tune 1 0 4 1;steps=1;moves=2*left;");
        lawn.beats(1);
        due("a is moved by MOVES of 1", lawn.goer(0, 0), 6);
        due("b left it", lawn.goer(1, 0), 2);
        due("a once", lawn.goer(0, 1), 1);
        due("b never", lawn.goer(1, 1), 0);
        lawn = lawn("lawn 5 2;goer a 0 0;tune 1 0 4 0;steps=1;moves=2;");
        lawn.beats(1);
        due("it SOUNDED as they began", lawn.goer(0, 0), 1);
        due("not moved", lawn.goer(0, 1), 0);
        lawn = lawn("lawn 5 2;goer a 1 0;tune 1 0 4 1;moves=time;");
        lawn.beats(1);
        due("MOVES by the next time", lawn.goer(0, 0), 2);
    }

    private void movesOfABeat() {
        says("all by how it was ahead of any moving (that they go nowhere counts, too); they were moved once more");
        BandstandLawn lawn = lawn("lawn 5 2;goer a 0 0;goer b 0 0;goer c 1 0;tune 0 0 2 1;tune 1 0 2 1;moves=1+moved*5;");
        lawn.beats(1);
        due("a is moved once, though 1 SOUNDS", lawn.goer(0, 0), 1);
        due("b, too", lawn.goer(1, 0), 1);
        due("c, too", lawn.goer(2, 0), 2);
        due("how often in all", lawn.count(13), 3);
        due("who", lawn.count(18), 7);
        String[] nowhere = {"moves=0;", "moves=4;", "moves=3;", "moves=2;rope 0 1;", "moves=1;rope 1 0;", "moves=1/0;"};
        for (String moves : nowhere) {
            lawn = lawn("lawn 2 2;goer a 0 0;tune 0 0 2 1;" + moves);
            lawn.beats(1);
            due("where", lawn.goer(0, 0), 0);
            due("counts, " + moves, lawn.goer(0, 1), 1);
            lawn.beats(1);
            due("not at 2", lawn.goer(0, 1), 1);
            lawn.beats(1);
            due("at 3 again", lawn.goer(0, 1), 2);
        }
    }

    private void spreads() {
        says("for which SPREADS (all by how it was ahead of any spreading) tells more than 0");
        String told = "lawn 3 2;tune 0 0 2 0;wet 100;spreads=";
        due("0", lawn(told + "0;").tunesIn(1), 1);
        due("1", lawn(told + "1;").tunesIn(1), 3);
        due("-1", lawn(told + "0-1;").tunesIn(1), 1);
        due("the most", lawn(told + MOST + ";").tunesIn(1), 3);
        due("the least", lawn(told + LEAST + ";").tunesIn(1), 1);
        due("by the time ahead: none", lawn(told + "1-time;").tunesIn(9), 1);
        due("by the next time", lawn(told + "2-time;").tunesIn(9), 3);
        due("by X", lawn(told + "2-left;").tunesIn(9), 7);
        due("by X", lawn(told + "1-left;").tunesIn(9), 3);
        BandstandLawn lawn = lawn("lawn 3 3;tune 0 0 2 0;tune 0 1 3 0;tune 0 2 4 0;wet 100;spreads=(4-tunes)*(beat-2);");
        lawn.beats(1);
        due("tunes as it was ahead: 3 for all", lawn.count(5), 0b011_011_001);
        lawn.beats(5);
        due("then 5: none", lawn.count(5), 0b011_011_001);
        says("has one of the same BEAT, its OFFSET one more (its rest by the BEAT)");
        for (int beat = 2; beat <= 6; beat++) {
            for (int offset = 0; offset < beat; offset++) {
                lawn = lawn("lawn 5 2;" + tune(0, 0, beat, offset) + "wet 100;spreads=1;");
                lawn.beats(4);
                for (int cell = 0; cell < 5; cell++) {
                    due("BEAT", lawn.cell(cell, 0), beat);
                    due("OFFSET", lawn.cell(cell, 1), (offset + cell) % beat);
                }
            }
        }
    }

    private void spreadsWhere() {
        says("the cell right of it, on the LAWN");
        for (int wide = 2; wide <= 5; wide++) {
            BandstandLawn lawn = lawn("lawn " + wide + " 3;" + tune(wide - 2, 1, 3, 0) + "wet 100;spreads=1;");
            due("up to the edge", lawn.tunesIn(1), 3 << 2 * wide - 2);
            due("not beyond it", lawn.tunesIn(9), 3 << 2 * wide - 2);
        }
        due("not from the last cell", lawn("lawn 5 5;tune 4 4 2 0;wet 100;spreads=1;").tunesIn(9), 1 << 24);
        says("without a TUNE ahead of any spreading");
        BandstandLawn lawn = lawn("lawn 5 2;tune 0 0 2 0;tune 1 0 3 1;tune 3 0 4 2;wet 100;spreads=1;");
        lawn.beats(1);
        due("TUNES", lawn.count(5), 31);
        int[] beats = {2, 3, 3, 4, 4};
        int[] offsets = {0, 1, 2, 2, 3};
        for (int cell = 0; cell < 5; cell++) {
            due("BEAT of " + cell, lawn.cell(cell, 0), beats[cell]);
            due("OFFSET of " + cell, lawn.cell(cell, 1), offsets[cell]);
        }
        lawn = lawn("lawn 5 2;tune 0 0 2 0;wet 100;spreads=1;");
        int[] behind = {1, 3, 7, 15, 31, 31};
        for (int n = 0; n < behind.length; n++) {
            due("one cell a BEAT, behind " + n, lawn.tunesIn(n), behind[n]);
        }
        says("roped off or not");
        lawn = lawn("lawn 3 2;tune 0 0 2 0;rope 1 0;wet 100;spreads=1;");
        lawn.beats(2);
        due("TUNES", lawn.count(5), 7);
        due("ropes", lawn.count(6), 2);
        // moved first, then it spreads: what is new moves nobody in that BEAT
        lawn = lawn("lawn 3 2;tune 0 0 2 0;goer a 1 0;moves=2;wet 100;spreads=1;");
        lawn.beats(1);
        due("SOUNDS at 1", lawn.cell(1, 2), 1);
        due("not moved", lawn.goer(0, 0), 1);
        lawn.beats(2);
        due("moved at 3", lawn.goer(0, 0), 4);
    }

    private void spreadsRoom() {
        says("if fewer than 8 cells have one then");
        StringBuilder text = new StringBuilder("lawn 2 5;wet 100;spreads=1;");
        for (int y = 0; y < 5; y++) {
            text.append(tune(0, y, 2, 0));
        }
        due("5: three more, in order", lawn(text.toString()).tunesIn(1), 0b01_01_11_11_11);
        text.append(tune(1, 0, 3, 0));
        due("6: two more", lawn(text.toString()).tunesIn(1), 0b01_01_11_11_11);
        text.append(tune(1, 1, 3, 0));
        due("7: one more", lawn(text.toString()).tunesIn(1), 0b01_01_11_11_11);
        due("7: no more later", lawn(text.toString()).tunesIn(100), 0b01_01_11_11_11);
        text.append(tune(1, 4, 3, 0));
        BandstandLawn lawn = lawn(text.toString());
        due("8: none", lawn.tunesIn(1), 0b11_01_01_11_11);
        due("beats(9)", lawn.beats(9), 9);
        due("8: none", lawn.count(5), 0b11_01_01_11_11);
        due("mow(9)", lawn.mow(9), 1);
        due("7 again: the first", lawn.tunesIn(1), 0b01_01_11_11_11);
        lawn.beats(1);
        due("7 again: the first", lawn.count(5), 0b01_01_11_11_11);
        due("as many", lawn.count(14), 8);
        // one that LOT or SPREADS keeps back takes no room
        due("by SPREADS", lawn("lawn 2 5;wet 100;spreads=top;" + text.substring(27)).tunesIn(1), 0b11_01_01_11_11);
        String seven = text.substring(27, text.length() - tune(1, 4, 3, 0).length());
        due("by SPREADS", lawn("lawn 2 5;wet 100;spreads=top-3;" + seven).tunesIn(1), 0b11_01_01_11_11);
    }

    // ---- promises 6 to 12

    private void cell() {
        says("Of a cell: what 0 BEAT, 1 OFFSET of its TUNE (-2: none), 2: 1 it SOUNDS now, else 0");
        BandstandLawn lawn = lawn("lawn 3 2;tune 0 0 2 1;tune 2 1 6 5;tune 1 0 6 0;rope 1 0;goer a 2 1;goer b 0 0;"
                + "goer c 0 0;goer d 0 0;goer e 0 0;costs=7+left;");
        int[][] want = {{2, 1, 0, 0, 30, 7}, {6, 0, 1, 1, 0, 8}, {NOT, NOT, 0, 0, 0, 9}, {NOT, NOT, 0, 0, 0, 7},
            {NOT, NOT, 0, 0, 0, 8}, {6, 5, 0, 0, 1, 9}};
        for (int cell = 0; cell < 6; cell++) {
            for (int what = 0; what < 6; what++) {
                due("cell(" + cell + ", " + what + ")", lawn.cell(cell, what), want[cell][what]);
            }
        }
        due("mow(0)", lawn.mow(0), 7);
        due("BEAT, mown", lawn.cell(0, 0), NOT);
        due("OFFSET, mown", lawn.cell(0, 1), NOT);
        lawn.beats(1);
        due("SOUNDS, mown", lawn.cell(0, 2), 0);
        says("Promise 6: NONE for others");
        for (int what = 0; what < 6; what++) {
            due("cell(-1, " + what + ")", lawn.cell(-1, what), NONE);
            due("cell(6, " + what + ")", lawn.cell(6, what), NONE);
        }
        due("cell(0, -1)", lawn.cell(0, -1), NONE);
        due("cell(0, 6)", lawn.cell(0, 6), NONE);
        due("cell(5, -1)", lawn.cell(5, -1), NONE);
        due("cell(5, 6)", lawn.cell(5, 6), NONE);
        due("cell(most, 0)", lawn.cell(Integer.MAX_VALUE, 0), NONE);
        due("cell(least, 0)", lawn.cell(Integer.MIN_VALUE, 0), NONE);
        due("cell(0, least)", lawn.cell(0, Integer.MIN_VALUE), NONE);
    }

    private void goer() {
        says("Of a GOER: what 0 in which cell, 1 how often moved, 2 to which cell they would step now, 3 to which they"
                + " would be moved from where they are now");
        BandstandLawn lawn = lawn("lawn 3 3;goer a 1 1;goer b 2 2;steps=1;moves=3;");
        int[][] want = {{4, 0, 5, 3}, {8, 0, 8, 7}};
        for (int goer = 0; goer < 2; goer++) {
            for (int what = 0; what < 4; what++) {
                due("goer(" + goer + ", " + what + ")", lawn.goer(goer, what), want[goer][what]);
            }
        }
        says("Promise 7: NONE for others");
        for (int what = 0; what < 4; what++) {
            due("goer(-1, " + what + ")", lawn.goer(-1, what), NONE);
            due("goer(2, " + what + ")", lawn.goer(2, what), NONE);
        }
        due("goer(0, -1)", lawn.goer(0, -1), NONE);
        due("goer(0, 4)", lawn.goer(0, 4), NONE);
        due("goer(1, 4)", lawn.goer(1, 4), NONE);
        due("goer(most, 0)", lawn.goer(Integer.MAX_VALUE, 0), NONE);
        due("goer(least, 0)", lawn.goer(Integer.MIN_VALUE, 0), NONE);
    }

    private void refused(String call, BandstandLawn lawn, String before) {
        check.same(call, before, Check.seen(lawn));
    }

    private static final String SMALL = "lawn 3 2;tune 0 0 2 1;tune 2 1 3 0;rope 2 1;rope 2 0;goer a 0 0;goer b 1 1;"
            + "costs=10*beat+tunes;moves=2;steps=0;spreads=1;wet 0;";

    private void mow() {
        says("MOWN: what is paid; NONE, and nothing happens: no TUNE is there, no such cell");
        int[] none = {-1, 1, 2, 3, 4, 6, 32, 33, Integer.MAX_VALUE, Integer.MIN_VALUE};
        for (int cell : none) {
            BandstandLawn lawn = lawn(SMALL);
            String before = Check.seen(lawn);
            due("mow(" + cell + ")", lawn.mow(cell), NONE);
            refused("mow(" + cell + ")", lawn, before);
        }
        BandstandLawn lawn = lawn(SMALL);
        due("mow(5), roped off", lawn.mow(5), 32);
        due("mow(5) again", lawn.mow(5), NONE);
        due("mow(0), a GOER in it", lawn.mow(0), 21);
        due("mow(0) again", lawn.mow(0), NONE);
        due("paid", lawn.count(4), 53);
        due("TUNES", lawn.count(5), 0);
        due("things done", lawn.count(9), 2);
        due("ropes", lawn.count(6), 0b100100);
        due("it may spread there again", lawn("lawn 2 2;tune 0 0 2 0;tune 1 0 3 0;wet 100;spreads=1;").mow(1), 1);
        BandstandLawn again = lawn("lawn 2 2;tune 0 0 2 0;tune 1 0 3 0;wet 100;spreads=1;");
        again.mow(1);
        again.beats(1);
        due("BEAT of the one that spread", again.cell(1, 0), 2);
    }

    private void rope() {
        says("Roped off, or let free: true; false, and nothing happens: it is so, a GOER is in it, (to be roped off) a TUNE"
                + " is in it, no such cell");
        int[] notOff = {0, 2, 4, 5, -1, 6, 32, Integer.MAX_VALUE, Integer.MIN_VALUE};
        int[] notFree = {0, 1, 3, 4, -1, 6, 34, Integer.MAX_VALUE, Integer.MIN_VALUE};
        for (int i = 0; i < 9; i++) {
            BandstandLawn lawn = lawn(SMALL);
            String before = Check.seen(lawn);
            due("rope(" + notOff[i] + ", true)", lawn.rope(notOff[i], true), false);
            due("rope(" + notFree[i] + ", false)", lawn.rope(notFree[i], false), false);
            refused("rope", lawn, before);
        }
        BandstandLawn lawn = lawn(SMALL);
        due("rope(1, true)", lawn.rope(1, true), true);
        due("rope(3, true)", lawn.rope(3, true), true);
        due("rope(2, false)", lawn.rope(2, false), true);
        due("rope(5, false), a TUNE in it", lawn.rope(5, false), true);
        due("rope(5, true), a TUNE in it", lawn.rope(5, true), false);
        due("mow(5)", lawn.mow(5), 32);
        due("rope(5, true), mown", lawn.rope(5, true), true);
        due("ropes", lawn.count(6), 0b101010);
        due("things done", lawn.count(9), 6);
        due("carry(1, 2)", lawn.carry(1, 2), true);
        due("rope(4, true), no GOER in it now", lawn.rope(4, true), true);
        due("rope(2, true), one in it now", lawn.rope(2, true), false);
        BandstandLawn bare = new BandstandLawn();
        for (int cell = 0; cell < 16; cell++) {
            due("rope(" + cell + ", true)", bare.rope(cell, true), true);
        }
        due("more than 8 by hand", bare.count(17), 16);
    }

    private void carry() {
        says("Carried: true; false, and nothing happens: they are there, it is roped off, no such ones");
        int[][] none = {{0, 0}, {1, 4}, {0, 2}, {0, 5}, {0, -1}, {0, 6}, {-1, 1}, {2, 1}, {0, 32}, {0, Integer.MAX_VALUE},
            {Integer.MIN_VALUE, 1}, {5, 1}};
        for (int[] row : none) {
            BandstandLawn lawn = lawn(SMALL);
            String before = Check.seen(lawn);
            due("carry(" + row[0] + ", " + row[1] + ")", lawn.carry(row[0], row[1]), false);
            refused("carry", lawn, before);
        }
        BandstandLawn lawn = lawn(SMALL);
        due("carry(0, 1)", lawn.carry(0, 1), true);
        due("carry(0, 4), one in it", lawn.carry(0, 4), true);
        due("carry(1, 0), a TUNE in it", lawn.carry(1, 0), true);
        due("carry(1, 3)", lawn.carry(1, 3), true);
        due("who is where", lawn.count(7), 0b11000);
        due("nobody is moved by it", lawn.count(13), 0);
        due("things done", lawn.count(9), 4);
        due("rope(2, false)", lawn.rope(2, false), true);
        due("carry(0, 2), let free", lawn.carry(0, 2), true);
    }

    private void beats() {
        says("n BEATS (0 .. 100; 0 is no thing done) go by: which time it is; NONE, and nothing happens: no such n");
        BandstandLawn lawn = lawn(SMALL);
        String before = Check.seen(lawn);
        due("beats(-1)", lawn.beats(-1), NONE);
        due("beats(101)", lawn.beats(101), NONE);
        due("beats(least)", lawn.beats(Integer.MIN_VALUE), NONE);
        due("beats(most)", lawn.beats(Integer.MAX_VALUE), NONE);
        due("beats(0)", lawn.beats(0), 0);
        refused("beats", lawn, before);
        due("beats(1)", lawn.beats(1), 1);
        due("one thing done", lawn.count(9), 1);
        due("moved down", lawn.goer(0, 0), 3);
        due("beats(100)", lawn.beats(100), 101);
        due("one thing more", lawn.count(9), 2);
        due("beats(0)", lawn.beats(0), 101);
        due("no thing more", lawn.count(9), 2);
        due("undo of 100", lawn.undo(), true);
        due("time", lawn.count(3), 1);
    }

    private void undo() {
        says("The last thing done (mow, rope, carry, beats) is undone: true");
        BandstandLawn lawn = lawn(SMALL);
        String[] seen = new String[6];
        seen[0] = Check.seen(lawn);
        due("mow", lawn.mow(0), 22);
        seen[1] = Check.seen(lawn);
        due("rope", lawn.rope(1, true), true);
        seen[2] = Check.seen(lawn);
        due("let free", lawn.rope(2, false), true);
        seen[3] = Check.seen(lawn);
        due("carry", lawn.carry(0, 2), true);
        seen[4] = Check.seen(lawn);
        due("beats", lawn.beats(7), 7);
        due("beats(0)", lawn.beats(0), 7);
        due("refused", lawn.mow(0), NONE);
        due("refused", lawn.rope(0, false), false);
        due("refused", lawn.carry(0, 2), false);
        due("refused", lawn.beats(101), NONE);
        for (int i = 4; i >= 0; i--) {
            due("undo", lawn.undo(), true);
            check.same("undo to " + i, seen[i], Check.seen(lawn));
        }
        says("false: there is none (the last 40 can be)");
        due("undo", lawn.undo(), false);
        for (int things = 39; things <= 42; things++) {
            BandstandLawn many = new BandstandLawn();
            for (int i = 0; i < things; i++) {
                many.beats(1);
            }
            int can = Math.min(40, things);
            due("can be undone of " + things, many.count(9), can);
            for (int i = 1; i <= can; i++) {
                due("undo", many.undo(), true);
            }
            due("time", many.count(3), things - can);
            due("undo", many.undo(), false);
            due("time", many.count(3), things - can);
            due("can be undone", many.count(9), 0);
            due("beats(3)", many.beats(3), things - can + 3);
            due("undo", many.undo(), true);
            due("undo", many.undo(), false);
            due("time", many.count(3), things - can);
        }
        BandstandLawn mixed = new BandstandLawn();
        for (int i = 0; i < 60; i++) {
            due("rope", mixed.rope(i % 16, i / 16 % 2 == 0), true);
            if (i % 3 == 2) {
                due("undo", mixed.undo(), true);
                due("rope again", mixed.rope(i % 16, i / 16 % 2 == 0), true);
            }
        }
        due("can be undone", mixed.count(9), 40);
        for (int i = 0; i < 40; i++) {
            mixed.undo();
        }
        due("20 were roped and let free", mixed.count(6), 65535 & ~15);
    }

    // ---- promises 37 to 39

    private void hold() {
        says("is held in a SLOT (0 .. 2): true; false: no such one");
        BandstandLawn lawn = lawn(SMALL);
        String before = Check.seen(lawn);
        int[] none = {-1, 3, 31, 32, 33, Integer.MAX_VALUE, Integer.MIN_VALUE};
        for (int slot : none) {
            due("hold(" + slot + ")", lawn.hold(slot), false);
        }
        refused("hold", lawn, before);
        for (int slot = 2; slot >= 0; slot--) {
            due("hold(" + slot + ")", lawn.hold(slot), true);
            due("SLOTS that hold", lawn.count(11), 3 - slot);
        }
        due("hold(1) again", lawn.hold(1), true);
        due("SLOTS that hold", lawn.count(11), 3);
        due("no thing done", lawn.count(9), 0);
        says("All that goes on (not what is TOLD, nor the tape)");
        lawn = lawn(SMALL);
        lawn.beats(3);
        lawn.mow(0);
        lawn.rope(1, true);
        lawn.tell(7, true);
        String held = Check.seen(lawn);
        lawn.hold(2);
        lawn.carry(0, 0);
        lawn.beats(100);
        lawn.mow(5);
        lawn.rope(1, false);
        lawn.tell(8, true);
        lawn.feed(1, 2, 3, 4, 5);
        due("restore", lawn.restore(2), true);
        due("TOLD", lawn.count(10), 2);
        due("bytes", lawn.count(8), 20);
        lawn.back(20);
        lawn.forget();
        lawn.tell(7, true);
        due("what can be undone is not held", lawn.count(9), 0);
        lawn.beats(1);
        lawn.undo();
        for (int i = 0; i < 3; i++) {
            lawn.carry(0, 0);
            lawn.carry(0, 3);
        }
        lawn.restore(2);
        String now = Check.seen(lawn);
        // as it was held, but for the three things that could be undone then and the SLOT that holds
        check.same("all that goes on", held.replaceFirst("^((?:\\S+ ){9})3 1 0 ", "$10 1 1 "), now);
    }

    private void restore() {
        says("It goes on from what a SLOT holds (that stays there; nothing can be undone then): true; false, and nothing"
                + " happens: no such one, nothing is held");
        BandstandLawn lawn = lawn(SMALL);
        lawn.beats(1);
        lawn.hold(1);
        lawn.beats(1);
        String before = Check.seen(lawn);
        int[] none = {0, 2, -1, 3, 32, 33, Integer.MAX_VALUE, Integer.MIN_VALUE};
        for (int slot : none) {
            due("restore(" + slot + ")", lawn.restore(slot), false);
        }
        refused("restore", lawn, before);
        for (int i = 0; i < 3; i++) {
            due("restore(1)", lawn.restore(1), true);
            due("time", lawn.count(3), 1);
            due("things done", lawn.count(9), 0);
            due("undo", lawn.undo(), false);
            due("time", lawn.count(3), 1);
            lawn.beats(5);
            due("things done", lawn.count(9), 1);
        }
        due("SLOTS that hold", lawn.count(11), 1);
        due("hold(1) anew", lawn.hold(1), true);
        lawn.beats(5);
        due("restore(1)", lawn.restore(1), true);
        due("time", lawn.count(3), 6);
        due("hold(0)", lawn.hold(0), true);
        due("hold(2)", lawn.hold(2), true);
        due("restore(0)", lawn.restore(0), true);
        due("restore(2)", lawn.restore(2), true);
    }

    private void count() {
        says("Promise 39: NONE for others");
        BandstandLawn lawn = lawn(SMALL);
        int[] none = {-1, 20, 21, 32, Integer.MAX_VALUE, Integer.MIN_VALUE};
        for (int what : none) {
            due("count(" + what + ")", lawn.count(what), NONE);
        }
        says("0 WIDE, 1 HIGH, 2 GOERS, 3 the time, 4 what was paid so far, 5 cells with a TUNE, 6 cells roped off, ..");
        int[] first = {3, 2, 2, 0, 0, 0b100001, 0b100100, 0b010001, 0, 0, 0, 0, 0b100000, 0, 2, 54, 0b001010, 2, 0, 0};
        for (int what = 0; what < 20; what++) {
            due("count(" + what + ")", lawn.count(what), first[what]);
        }
        lawn.beats(1);
        lawn.mow(5);
        lawn.feed(0, 0, 0, 0, 0);
        lawn.back(1);
        lawn.tell(0, true);
        lawn.hold(2);
        int[] then = {3, 2, 2, 1, 32, 0b000001, 0b100100, 0b011000, 19, 2, 1, 1, 0b000001, 1, 1, 21, 0b000010, 2, 1, 0};
        for (int what = 0; what < 20; what++) {
            due("count(" + what + ")", lawn.count(what), then[what]);
        }
        says("7 cells where a GOER is (bits)");
        lawn = lawn("lawn 5 5;goer a 4 4;goer b 4 4;goer c 0 0;goer d 2 2;goer e 2 2;");
        due("count(7)", lawn.count(7), 1 << 24 | 1 | 1 << 12);
        says("16 cells that nothing is in: no TUNE, no GOER, no rope (bits)");
        due("count(16)", lawn.count(16), (1 << 25) - 1 & ~(1 << 24 | 1 | 1 << 12));
        lawn.rope(1, true);
        due("count(16), roped", lawn.count(16), (1 << 25) - 1 & ~(1 << 24 | 3 | 1 << 12));
        says("13 how often any was moved so far");
        lawn = lawn("lawn 2 2;tune 0 0 2 1;goer a 0 0;goer b 0 0;goer c 1 1;moves=0;");
        int[] moved = {0, 2, 2, 4, 4, 6};
        for (int n = 0; n < moved.length; n++) {
            due("count(13) at " + n, lawn.count(13), moved[n]);
            due("count(18) at " + n, lawn.count(18), n == 0 ? 0 : 3);
            lawn.beats(1);
        }
        says("18 who was moved ever (bits)");
        lawn.carry(2, 0);
        lawn.beats(2);
        due("count(18)", lawn.count(18), 7);
        lawn.undo();
        due("count(18), undone", lawn.count(18), 3);
        says("19 WET");
        due("wet 0", lawn.count(19), 0);
        due("wet 100", lawn(times(3, "wet 1;") + "wet 100;").count(19), 100);
        says("15 COSTS of all these now, added");
        lawn = lawn("lawn 5 2;tune 0 0 2 0;tune 1 0 2 0;tune 2 0 2 0;tune 3 0 2 0;tune 4 0 2 0;tune 0 1 2 0;tune 1 1 2 0;"
                + "tune 2 1 2 0;costs=98+time;");
        due("8 of 98", lawn.count(15), 8 * 98);
        lawn.beats(1);
        due("8 of 99", lawn.count(15), 8 * 99);
        lawn.beats(1);
        due("8 of 99, held", lawn.count(15), 8 * 99);
        due("none", new BandstandLawn().count(15), 0);
    }
}
