/** Parts III and IV of the document and promises 13 to 36: what would be, and what is told, each bound from either side. */
public final class AskedBoundsTest {
    private static final int NONE = BandstandLawn.NONE;
    private static final int NOT = -2;
    private static final int MOST = Integer.MAX_VALUE;
    private static final int LEAST = Integer.MIN_VALUE;

    private final Check check = new Check();

    public static void main(String[] args) {
        AskedBoundsTest test = new AskedBoundsTest();
        test.nothingHappens();
        test.nothingSpreads();
        test.next();
        test.together();
        test.paths();
        test.way();
        test.wayByNought();
        test.longWay();
        test.leave();
        test.mows();
        test.part();
        test.meet();
        test.returns();
        test.never();
        test.stood();
        test.loud();
        test.silence();
        test.chorus();
        test.period();
        test.centre();
        test.far();
        test.pairs();
        test.inSoManyBeats();
        test.year();
        test.tell();
        test.fits();
        test.listen();
        test.check.end("AskedBoundsTest");
    }

    private void says(String words) {
        check.says(words);
    }

    private void due(String call, long got, long want) {
        check.due(call, got, want);
    }

    private BandstandLawn lawn(String text) {
        return check.lawn(text);
    }

    private static String tune(int cell, int wide, int beat, int offset) {
        return "tune " + cell % wide + " " + cell / wide + " " + beat + " " + offset + ";";
    }

    // ---- what would be

    private static final String LIVELY = "lawn 3 2;tune 0 0 2 1;tune 2 1 3 0;rope 1 1;goer a 0 0;goer b 2 0;goer c 0 1;"
            + "costs=10*beat+tunes;moves=2;steps=time+which;spreads=1;wet 100;seed 3;";

    private void nothingHappens() {
        says("What would be (nothing happens");
        BandstandLawn lawn = lawn(LIVELY);
        lawn.beats(1);
        lawn.tell(4, true);
        lawn.hold(0);
        String before = Check.seen(lawn);
        lawn.next(0);
        lawn.together(0, 5);
        lawn.way(0, 5, NONE);
        lawn.way(0, 5, 1);
        lawn.leave(0, 5, 0);
        lawn.mows(0, 5, 4, 1);
        lawn.part(0, 5);
        lawn.meet(0, 1, 1);
        lawn.returns(0);
        lawn.never(100);
        lawn.stood(0, 1, 100);
        lawn.loud(5);
        lawn.silence(0);
        lawn.chorus(0);
        lawn.period();
        lawn.centre(0);
        lawn.far(0, 5);
        lawn.pairs(NONE);
        lawn.then(0, 100, 0);
        lawn.tunesIn(100);
        lawn.year(2, 100, 20);
        lawn.fits(1, 0);
        lawn.listen(1);
        check.same("all that can be asked", before, Check.seen(lawn));
        lawn.restore(0);
        due("the SLOT is as it was", lawn.count(3), 1);
    }

    private void nothingSpreads() {
        says("no TUNE spreads but in IN n BEATS and YEAR)");
        // the TUNE of 0 would be in 1 behind 1 BEAT, in 2 behind 2
        String wet = "lawn 3 2;tune 0 0 2 1;goer a 1 0;goer b 2 0;moves=2;spreads=1;wet 100;";
        BandstandLawn lawn = lawn(wet);
        due("next(1)", lawn.next(1), NOT);
        due("together(0, 1)", lawn.together(0, 1), NOT);
        due("loud(1)", lawn.loud(1), 1);
        due("loud(3)", lawn.loud(3), 1);
        due("silence(0)", lawn.silence(0), 1);
        due("chorus(1)", lawn.chorus(1), 1);
        due("way(2, 0)", lawn.way(2, 0, NONE), 2);
        due("way(3, 1)", lawn("lawn 3 2;tune 0 0 2 1;rope 1 1;rope 2 1;spreads=1;wet 100;").way(3, 1, NONE), 3);
        due("leave(0, 2, 1)", lawn.leave(0, 2, 1), 2);
        due("mows(0, 2, 2, 0)", lawn.mows(0, 2, 2, 0), 0);
        due("meet(0, 1, 1)", lawn.meet(0, 1, 1), 1);
        due("returns(0)", lawn.returns(0), 1);
        due("never(9)", lawn.never(9), 0b111001);
        due("stood(0, 1, 9)", lawn.stood(0, 1, 9), 10);
        due("then(0, 9, 0)", lawn.then(0, 9, 0), 4);
        due("tunesIn(9)", lawn.tunesIn(9), 7);
        due("year(2, 9, 2)", lawn.year(2, 9, 2), 2);
    }

    private void next() {
        says("NEXT of a cell: behind how many BEATS (1 ..) its TUNE SOUNDS first");
        for (int beat = 2; beat <= 6; beat++) {
            for (int offset = 0; offset < beat; offset++) {
                BandstandLawn lawn = lawn(tune(15, 4, beat, offset));
                for (int time = 0; time <= beat; time++) {
                    int want = 1;
                    while ((time + want) % beat != offset) {
                        want++;
                    }
                    due("next at " + time, lawn.next(15), want);
                    lawn.beats(1);
                }
            }
        }
        says("NEXT; -2: no TUNE; NONE: no such cell");
        BandstandLawn lawn = lawn("lawn 3 2;tune 2 1 2 0;");
        due("next(5)", lawn.next(5), 2);
        due("next(4)", lawn.next(4), NOT);
        due("next(0)", lawn.next(0), NOT);
        due("next(-1)", lawn.next(-1), NONE);
        due("next(6)", lawn.next(6), NONE);
        due("next(37)", lawn.next(37), NONE);
        due("next(most)", lawn.next(MOST), NONE);
        due("next(least)", lawn.next(LEAST), NONE);
        lawn.mow(5);
        due("next(5), mown", lawn.next(5), NOT);
    }

    private void together() {
        says("TOGETHER of two cells: behind how many BEATS (0 .. 59) both SOUND first at once");
        for (int one = 0; one < 25; one++) {
            for (int other = 0; other < 25; other++) {
                int beat = 2 + one / 5;
                int offset = one % 5 % beat;
                int otherBeat = 2 + other / 5;
                int otherOffset = (other + 1) % 6 % otherBeat;
                BandstandLawn lawn = lawn(tune(0, 4, beat, offset) + tune(5, 4, otherBeat, otherOffset));
                for (int time = 0; time <= 60; time += 20) {
                    int want = 0;
                    while (want < 60 && ((time + want) % beat != offset || (time + want) % otherBeat != otherOffset)) {
                        want++;
                    }
                    due("together at " + time, lawn.together(0, 5), want < 60 ? want : NOT);
                    lawn.beats(20);
                }
            }
        }
        BandstandLawn lawn = lawn("lawn 3 2;tune 0 0 5 4;tune 2 1 6 5;tune 1 0 2 0;");
        due("at 29", lawn.together(0, 5), 29);
        lawn.beats(29);
        due("now", lawn.together(0, 5), 0);
        lawn.beats(1);
        due("29 on", lawn.together(5, 0), 29);
        says("TOGETHER; -2: never, not both have one; NONE: no such cells");
        due("never", lawn.together(1, 5), NOT);
        due("only one has one", lawn.together(0, 2), NOT);
        due("only one has one", lawn.together(2, 0), NOT);
        due("none has one", lawn.together(2, 3), NOT);
        int[] none = {-1, 6, 32, MOST, LEAST};
        for (int cell : none) {
            due("together(0, " + cell + ")", lawn.together(0, cell), NONE);
            due("together(" + cell + ", 5)", lawn.together(cell, 5), NONE);
            due("together(" + cell + ", 2)", lawn.together(cell, 2), NONE);
        }
    }

    // ---- PATHS

    private void paths() {
        says("in none whose TUNE SOUNDS at that time");
        for (int beat = 2; beat <= 6; beat++) {
            for (int offset = 0; offset < beat; offset++) {
                BandstandLawn lawn = lawn("lawn 2 2;" + tune(1, 2, beat, offset));
                for (int time = 0; time <= beat; time++) {
                    int want = (time + 1) % beat == offset ? 2 : 1;
                    due("way(0, 1) at " + time, lawn.way(0, 1, NONE), want);
                    due("way(0, 1, 1) at " + time, lawn.way(0, 1, 1), want == 2 ? 0 : 1);
                    lawn.beats(1);
                }
            }
        }
        says("(where one begins is not asked)");
        BandstandLawn lawn = lawn("lawn 2 2;tune 0 0 2 0;");
        due("way(0, 0), which SOUNDS now", lawn.way(0, 0, NONE), 0);
        due("way(0, 1), which SOUNDS now", lawn.way(0, 1, NONE), 1);
        due("way(0, 3), which SOUNDS now", lawn.way(0, 3, NONE), 2);
        due("way(1, 0)", lawn.way(1, 0, NONE), 1);
        // one can not wait where it SOUNDS next
        lawn = lawn("lawn 3 2;rope 0 1;rope 1 1;rope 2 1;tune 0 0 2 1;tune 1 0 3 1;");
        due("way(0, 2): neither stay nor go", lawn.way(0, 2, NONE), NOT);
        lawn.beats(1);
        due("way(0, 2): go at once", lawn.way(0, 2, NONE), 2);
        says("behind each BEAT one is in the same cell or in one right, down, left or up of it, on the LAWN, not roped off");
        for (int wide = 2; wide <= 5; wide++) {
            for (int high = 2; high <= 5; high++) {
                BandstandLawn open = lawn("lawn " + wide + " " + high + ";");
                int last = wide * high - 1;
                for (int to = 0; to <= last; to++) {
                    due("way(0, " + to + ")", open.way(0, to, NONE), to % wide + to / wide);
                    due("way(" + last + ", " + to + ")", open.way(last, to, NONE),
                            wide - 1 - to % wide + high - 1 - to / wide);
                }
                due("way over the edge", open.way(wide - 1, wide, NONE), wide);
                open.rope(wide, true);
                due("way round a rope", open.way(0, 2 * wide < last ? 2 * wide : 1, NONE), 2 * wide < last ? 4 : 1);
            }
        }
    }

    private void way() {
        says("WAY: how many (i NONE), else in which cell one is behind i BEATS (0: the first)");
        BandstandLawn lawn = lawn("lawn 3 2;rope 1 1;");
        int[] cells = {3, 0, 1, 2, 5};
        due("way(3, 5)", lawn.way(3, 5, NONE), 4);
        for (int i = 0; i < cells.length; i++) {
            due("way(3, 5, " + i + ")", lawn.way(3, 5, i), cells[i]);
        }
        due("way(3, 3)", lawn.way(3, 3, NONE), 0);
        due("way(3, 3, 0)", lawn.way(3, 3, 0), 3);
        says("-2: none (i NONE or not); NONE: no such cells, roped off, not so many");
        due("way(3, 5, 5)", lawn.way(3, 5, 5), NONE);
        due("way(3, 5, -2)", lawn.way(3, 5, -2), NONE);
        due("way(3, 5, most)", lawn.way(3, 5, MOST), NONE);
        due("way(3, 5, least)", lawn.way(3, 5, LEAST), NONE);
        due("way(3, 3, 1)", lawn.way(3, 3, 1), NONE);
        int[] none = {-1, 4, 6, 35, MOST, LEAST};
        for (int cell : none) {
            for (int i = NONE; i <= 1; i++) {
                due("way(" + cell + ", 5, " + i + ")", lawn.way(cell, 5, i), NONE);
                due("way(3, " + cell + ", " + i + ")", lawn.way(3, cell, i), NONE);
            }
        }
        due("way(4, 4), roped off", lawn.way(4, 4, NONE), NONE);
        lawn.rope(1, true);
        for (int i = NONE; i <= 101; i += 17) {
            due("way(3, 5, " + i + ") without", lawn.way(3, 5, i), NOT);
        }
        due("way(3, 0)", lawn.way(3, 0, NONE), 1);
        says("of as few that with the lowest cell behind 1 BEAT, then behind 2, and so on");
        lawn = lawn("lawn 3 3;");
        int[] first = {8, 5, 2, 1, 0};
        int[] back = {0, 1, 2, 5, 8};
        for (int i = 0; i < 5; i++) {
            due("way(8, 0, " + i + ")", lawn.way(8, 0, i), first[i]);
            due("way(0, 8, " + i + ")", lawn.way(0, 8, i), back[i]);
        }
        // 1 SOUNDS at 1: by 3 in as few, or by waiting in one more
        lawn = lawn("lawn 3 3;tune 1 0 4 1;");
        due("way(0, 4)", lawn.way(0, 4, NONE), 2);
        due("way(0, 4, 1)", lawn.way(0, 4, 1), 3);
        due("way(0, 2)", lawn.way(0, 2, NONE), 3);
        due("way(0, 2, 1): to wait is lower than to go", lawn.way(0, 2, 1), 0);
        due("way(0, 5, 1)", lawn.way(0, 5, 1), 3);
        due("way(0, 5, 2)", lawn.way(0, 5, 2), 4);
    }

    /** From 5 to 3 one goes by 0, which SOUNDS at 1, 5 ..: 5 0 1 2 3. */
    private static final String AROUND_NOUGHT = "lawn 5 2;rope 1 1;rope 2 1;rope 3 1;rope 4 1;tune 0 0 4 1;";

    private void wayByNought() {
        says("in none whose TUNE SOUNDS at that time");
        BandstandLawn lawn = lawn(AROUND_NOUGHT);
        int[] cells = {5, 5, 0, 1, 2, 3};
        due("way(5, 3)", lawn.way(5, 3, NONE), 5);
        for (int i = 0; i < cells.length; i++) {
            due("way(5, 3, " + i + ")", lawn.way(5, 3, i), cells[i]);
        }
        due("leave(5, 3, 0)", lawn.leave(5, 3, 0), 1);
        due("leave(5, 3, 1)", lawn.leave(5, 3, 1), 4);
        due("mows(5, 3, 4, 1)", lawn.mows(5, 3, 4, 1), 1);
        due("mows(5, 3, 5, 1)", lawn.mows(5, 3, 5, 1), 0);
        // by 1 one would come to 0 as it SOUNDS: as short a way leads by 5
        lawn = lawn("lawn 3 3;rope 1 1;tune 0 0 4 2;");
        int[] round = {2, 5, 8, 7, 6};
        due("way(2, 6)", lawn.way(2, 6, NONE), 4);
        for (int i = 0; i < round.length; i++) {
            due("way(2, 6, " + i + ")", lawn.way(2, 6, i), round[i]);
        }
        // 0 and 1 are never passed one behind the other: whenever one begins, the other way round is the shortest
        lawn = lawn("lawn 3 3;rope 1 1;tune 0 0 2 0;tune 1 0 2 0;");
        due("way(3, 2)", lawn.way(3, 2, NONE), 5);
        due("leave(3, 2, 0)", lawn.leave(3, 2, 0), 0);
        due("leave(3, 2, 1)", lawn.leave(3, 2, 1), 5);
    }

    /** The cells of ropes, then of TUNES, and their BEATS and OFFSETS. */
    private static String lawnOf(int[] ropes, int[] tuned, int[] beats, int[] offsets) {
        StringBuilder text = new StringBuilder("lawn 5 5;");
        for (int cell : ropes) {
            text.append("rope ").append(cell % 5).append(' ').append(cell / 5).append(';');
        }
        for (int i = 0; i < tuned.length; i++) {
            text.append(tune(tuned[i], 5, beats[i], offsets[i]));
        }
        return text.toString();
    }

    /** The longest WAYS that searches over lawns came to: 51 BEATS. None is known that comes near to 100. */
    private void longWay() {
        says("WAY from a cell to a cell: the fewest BEATS (0 .. 100) of a PATH");
        longWay(lawnOf(new int[] {7, 8, 9, 11, 16, 18, 23}, new int[] {5, 10, 12, 15, 17, 20, 21, 22},
                new int[] {6, 3, 4, 3, 3, 5, 2, 3}, new int[] {0, 0, 1, 0, 0, 1, 1, 0}), 24, 4, 50);
        longWay(lawnOf(new int[] {1, 8, 10, 11, 12, 18, 21}, new int[] {4, 9, 22, 24, 19, 14, 23, 13},
                new int[] {6, 3, 4, 6, 3, 3, 2, 5}, new int[] {0, 0, 1, 3, 0, 0, 1, 1}), 20, 0, 51);
    }

    private void longWay(String text, int from, int to, int length) {
        BandstandLawn lawn = lawn(text);
        due("way", lawn.way(from, to, NONE), length);
        int before = from;
        for (int n = 0; n <= length; n++) {
            int cell = lawn.way(from, to, n);
            int apart = Math.abs(cell % 5 - before % 5) + Math.abs(cell / 5 - before / 5);
            due("a step at most, behind " + n, apart <= 1 ? 1 : 0, 1);
            due("not roped off, behind " + n, lawn.cell(cell, 3), 0);
            due("it does not SOUND, behind " + n, n == 0 ? 0 : lawn.loud(n) >> cell & 1, 0);
            before = cell;
        }
        due("it ends there", before, to);
        due("way, one BEAT more", lawn.way(from, to, length + 1), NONE);
        due("mows, as many BEATS", lawn.mows(from, to, length, 0), 0);
        due("mows, one BEAT fewer", lawn.mows(from, to, length - 1, 0), 1);
        due("mows, 100 BEATS", lawn.mows(from, to, 100, 0), 0);
    }

    /** A winding lane, 0 1 2 3 4 9 14 13 12 11 10 15 20 .., with TUNES in the eight cells behind 0. */
    private static final int[] LANE = {0, 1, 2, 3, 4, 9, 14, 13, 12, 11};
    private static final String ROPES = "lawn 5 5;rope 0 1;rope 1 1;rope 2 1;rope 3 1;rope 1 3;rope 2 3;rope 3 3;rope 4 3;";

    /** Through all of it at once one comes only if one begins at a time that leaves 59 by 60. */
    private static String lane() {
        int[] beats = {2, 4, 3, 3, 5, 5, 5, 5};
        int[] shut = {60, 61, 60, 61, 60, 61, 62, 63};
        StringBuilder text = new StringBuilder(ROPES);
        for (int i = 0; i < 8; i++) {
            text.append(tune(LANE[i + 1], 5, beats[i], (shut[i] + i + 1) % beats[i]));
        }
        return text.toString();
    }

    private void leave() {
        says("LEAVE likewise: behind how many BEATS (0 .. 59) from now one must begin there so that the PATH is shortest");
        BandstandLawn lawn = lawn(lane());
        for (int time = 0; time <= 62; time++) {
            due("leave(0, 11, 0) at " + time, lawn.leave(0, 11, 0), (119 - time) % 60);
            due("leave(0, 11, 1) at " + time, lawn.leave(0, 11, 1), 9);
            lawn.beats(1);
        }
        says("of alike ones the first; how long");
        lawn = lawn("lawn 2 2;tune 1 0 3 1;");
        due("leave(0, 1, 0)", lawn.leave(0, 1, 0), 1);
        due("leave(0, 1, 1)", lawn.leave(0, 1, 1), 1);
        due("leave(0, 0, 0)", lawn.leave(0, 0, 0), 0);
        due("leave(0, 0, 1)", lawn.leave(0, 0, 1), 0);
        due("leave(1, 0, 0)", lawn.leave(1, 0, 0), 0);
        lawn.beats(1);
        due("leave(0, 1, 0) at 1", lawn.leave(0, 1, 0), 0);
        says("LEAVE: what 0 behind how many, 1 how long; -2: none; NONE: no such ones, roped off");
        lawn = lawn("lawn 3 2;rope 1 0;");
        int[] none = {-1, 1, 6, 35, MOST, LEAST};
        for (int cell : none) {
            due("leave(" + cell + ", 5, 0)", lawn.leave(cell, 5, 0), NONE);
            due("leave(0, " + cell + ", 1)", lawn.leave(0, cell, 1), NONE);
        }
        due("leave(0, 5, -1)", lawn.leave(0, 5, -1), NONE);
        due("leave(0, 5, 2)", lawn.leave(0, 5, 2), NONE);
        due("leave(0, 5, 0)", lawn.leave(0, 5, 0), 0);
        due("leave(0, 5, 1)", lawn.leave(0, 5, 1), 3);
        lawn.rope(4, true);
        due("leave(0, 5, 0), parted", lawn.leave(0, 5, 0), NOT);
        due("leave(0, 5, 1), parted", lawn.leave(0, 5, 1), NOT);
        due("leave(0, 5, 2), parted", lawn.leave(0, 5, 2), NONE);
        // no way now, but one later
        lawn = lawn("lawn 3 2;rope 0 1;rope 1 1;rope 2 1;tune 0 0 2 1;tune 1 0 3 1;");
        due("way(0, 2)", lawn.way(0, 2, NONE), NOT);
        due("leave(0, 2, 0)", lawn.leave(0, 2, 0), 1);
        due("leave(0, 2, 1)", lawn.leave(0, 2, 1), 2);
    }

    private void mows() {
        says("MOW for a WAY of n (0 .. 100) BEATS or fewer: how few cells with a TUNE must be mown now");
        StringBuilder text = new StringBuilder(ROPES);
        int all = 0;
        for (int i = 1; i <= 8; i++) {
            text.append(tune(LANE[i], 5, 2, i % 2));
            all |= 1 << LANE[i];
        }
        BandstandLawn lawn = lawn(text.toString());
        due("mows in 8", lawn.mows(0, 11, 8, 0), NOT);
        due("mows in 8", lawn.mows(0, 11, 8, 1), NOT);
        due("mows in 9: all", lawn.mows(0, 11, 9, 0), 8);
        due("mows in 9: all", lawn.mows(0, 11, 9, 1), all);
        due("mows in 10: none", lawn.mows(0, 11, 10, 0), 0);
        due("mows in 10: none", lawn.mows(0, 11, 10, 1), 0);
        lawn.mow(1);
        due("mows in 9, one mown", lawn.mows(0, 11, 9, 0), 7);
        due("mows in 9, one mown", lawn.mows(0, 11, 9, 1), all & ~2);
        due("nothing more is mown", lawn.count(14), 7);
        says("which, of as many the least bits");
        BandstandLawn two = lawn("lawn 3 3;tune 1 0 2 1;tune 0 1 2 1;tune 2 1 2 1;tune 1 2 2 1;");
        due("mows one of two", two.mows(0, 4, 2, 1), 2);
        due("mows one of two", two.mows(8, 4, 2, 1), 32);
        due("mows two of four", two.mows(0, 8, 4, 0), 2);
        due("mows two of four", two.mows(0, 8, 4, 1), 2 | 32);
        due("mows none", two.mows(4, 1, 2, 1), 0);
        due("mows one", two.mows(4, 1, 1, 1), 2);
        says("-2: not by all; NONE: no such ones, roped off");
        BandstandLawn one = lawn("lawn 3 2;rope 1 0;tune 1 1 2 0;");
        due("mows(0, 5, -1, 0)", one.mows(0, 5, -1, 0), NONE);
        due("mows(0, 5, 101, 0)", one.mows(0, 5, 101, 0), NONE);
        due("mows(0, 5, most, 0)", one.mows(0, 5, MOST, 0), NONE);
        due("mows(0, 5, 0, 0)", one.mows(0, 5, 0, 0), NOT);
        due("mows(0, 0, 0, 0)", one.mows(0, 0, 0, 0), 0);
        due("mows(0, 5, 2, 0)", one.mows(0, 5, 2, 0), NOT);
        due("mows(0, 5, 3, 0)", one.mows(0, 5, 3, 0), 1);
        due("mows(0, 5, 4, 0)", one.mows(0, 5, 4, 0), 0);
        due("mows(0, 5, 100, 0)", one.mows(0, 5, 100, 0), 0);
        due("mows(0, 5, 3, -1)", one.mows(0, 5, 3, -1), NONE);
        due("mows(0, 5, 3, 2)", one.mows(0, 5, 3, 2), NONE);
        int[] none = {-1, 1, 6, 35, MOST, LEAST};
        for (int cell : none) {
            due("mows(" + cell + ", 5, 9, 0)", one.mows(cell, 5, 9, 0), NONE);
            due("mows(0, " + cell + ", 9, 1)", one.mows(0, cell, 9, 1), NONE);
        }
        one.mow(4);
        one.rope(4, true);
        due("mows, parted", one.mows(0, 5, 100, 0), NOT);
    }

    private void part() {
        says("PART two cells, not side by side, unlike: how few others must be roped off besides");
        BandstandLawn lawn = lawn("lawn 5 5;tune 2 1 2 0;goer a 2 3;");
        due("part(6, 18)", lawn.part(6, 18), 4);
        due("part(7, 17)", lawn.part(7, 17), 4);
        due("part(2, 22)", lawn.part(2, 22), 3);
        due("part(0, 12)", lawn.part(0, 12), 2);
        int[] ropes = {11, 13, 16, 12, 18};
        int[] left = {4, 3, 3, 2, 1};
        for (int i = 0; i < ropes.length; i++) {
            due("rope", lawn.rope(ropes[i], true) ? 1 : 0, 1);
            due("part(7, 17) behind rope " + ropes[i], lawn.part(7, 17), left[i]);
        }
        lawn.carry(0, 0);
        lawn.rope(22, true);
        due("part(7, 17), parted", lawn.part(7, 17), 0);
        says("so that one can not go from one to the other by cells not roped off (TUNES not looked at)");
        int[] wides = {5, 5, 5, 4, 3, 5};
        int[] highs = {5, 5, 4, 5, 5, 3};
        int[] roped = {0, 1 << 6 | 1 << 8 | 1 << 16 | 1 << 18, 1 << 7 | 1 << 11, 1 << 5 | 1 << 14, 1 << 4, 1 << 2 | 1 << 12};
        for (int i = 0; i < wides.length; i++) {
            parted(wides[i], highs[i], roped[i]);
        }
        says("PART; -2: side by side, one and the same; NONE: no such cells, roped off");
        lawn = lawn("lawn 3 3;rope 2 2;");
        due("part(4, 4)", lawn.part(4, 4), NOT);
        int[] beside = {1, 3, 5, 7};
        int[] aslant = {0, 2, 6};
        for (int cell : beside) {
            due("part(4, " + cell + ")", lawn.part(4, cell), NOT);
            due("part(" + cell + ", 4)", lawn.part(cell, 4), NOT);
        }
        for (int cell : aslant) {
            due("part(4, " + cell + ")", lawn.part(4, cell), 2);
            due("part(" + cell + ", 4)", lawn.part(cell, 4), 2);
        }
        due("part(2, 3), of two rows", lawn.part(2, 3), 2);
        int[] none = {-1, 9, 8, 36, MOST, LEAST};
        for (int cell : none) {
            due("part(0, " + cell + ")", lawn.part(0, cell), NONE);
            due("part(" + cell + ", 0)", lawn.part(cell, 0), NONE);
            due("part(" + cell + ", " + cell + ")", lawn.part(cell, cell), NONE);
        }
    }

    /** Each pair of cells, held against all sets of ropes, the smallest first. */
    private void parted(int wide, int high, int roped) {
        int many = wide * high;
        StringBuilder text = new StringBuilder("lawn " + wide + " " + high + ";");
        for (int cell = 0; cell < many; cell++) {
            text.append((roped >> cell & 1) != 0 ? "rope " + cell % wide + " " + cell / wide + ";" : "");
        }
        for (int from = 0; from < many; from++) {
            BandstandLawn lawn = lawn(text.toString());
            for (int to = 0; to < many; to++) {
                int apart = Math.abs(from % wide - to % wide) + Math.abs(from / wide - to / wide);
                if ((roped >> from & 1) == 0 && (roped >> to & 1) == 0 && apart > 1) {
                    int open = (1 << many) - 1 & ~roped;
                    int few = 0;
                    while (few < 4 && !cutBy(few, 0, open, wide, from, to)) {
                        few++;
                    }
                    due("part(" + from + ", " + to + ") of " + text, lawn.part(from, to), few);
                }
            }
        }
    }

    private static boolean cutBy(int ropes, int first, int open, int wide, int from, int to) {
        if (!leads(open, wide, from, to)) {
            return true;
        }
        for (int cell = first; cell < 25 && ropes > 0; cell++) {
            if (cell != from && cell != to && (open >> cell & 1) != 0
                    && cutBy(ropes - 1, cell + 1, open & ~(1 << cell), wide, from, to)) {
                return true;
            }
        }
        return false;
    }

    private static boolean leads(int open, int wide, int from, int to) {
        int left = 0;
        for (int cell = 0; cell < 25; cell += wide) {
            left |= 1 << cell;
        }
        int before = 0;
        int reached = 1 << from;
        while (reached != before) {
            before = reached;
            reached |= (reached << 1 & ~left | (reached & ~left) >> 1 | reached << wide | reached >> wide) & open;
        }
        return (reached >> to & 1) != 0;
    }

    private void meet() {
        says("MEET of two GOERS: the fewest BEATS (0 .. 100) behind which PATHS of both, from where they are, end in one"
                + " cell; the lowest such cell");
        BandstandLawn lawn = lawn("lawn 5 2;goer a 0 0;goer b 0 0;goer c 1 0;goer d 2 0;goer e 4 1;tune 0 0 2 0;");
        int[][] rows = {{0, 1, 0, 0}, {0, 2, 1, 0}, {0, 3, 1, 1}, {0, 4, 3, 2}, {2, 4, 2, 3}};
        for (int[] row : rows) {
            due("meet(" + row[0] + ", " + row[1] + ", 0)", lawn.meet(row[0], row[1], 0), row[2]);
            due("meet(" + row[0] + ", " + row[1] + ", 1)", lawn.meet(row[0], row[1], 1), row[3]);
            due("meet(" + row[1] + ", " + row[0] + ", 0)", lawn.meet(row[1], row[0], 0), row[2]);
            due("meet(" + row[1] + ", " + row[0] + ", 1)", lawn.meet(row[1], row[0], 1), row[3]);
        }
        lawn.beats(1);
        lawn.carry(0, 0);
        lawn.carry(2, 1);
        due("0 SOUNDS next: in 1", lawn.meet(0, 2, 1), 1);
        // a lane 0 1 2 3 4, shut at odd times in 1 and 3, each third time in 2
        lawn = lawn("lawn 5 2;rope 0 1;rope 1 1;rope 2 1;rope 3 1;rope 4 1;tune 1 0 2 1;tune 3 0 2 1;tune 2 0 3 0;"
                + "goer a 0 0;goer b 4 0;");
        int[] behind = {5, 4, 3, 2, 3, 2, 5};
        for (int time = 0; time < behind.length; time++) {
            due("meet at " + time, lawn.meet(0, 1, 0), behind[time]);
            due("meet at " + time, lawn.meet(0, 1, 1), 2);
            lawn.beats(1);
        }
        // the longest that a search over lawns came to
        lawn = lawn(lawnOf(new int[] {0, 7, 9, 11, 16, 18, 22}, new int[] {3, 14, 8, 19, 24, 13, 12, 17},
                new int[] {4, 3, 3, 3, 4, 3, 2, 5}, new int[] {1, 1, 1, 1, 2, 1, 1, 0}) + "goer a 3 4;goer b 1 4;");
        due("meet behind 42 BEATS", lawn.meet(0, 1, 0), 42);
        due("meet behind 42 BEATS", lawn.meet(1, 0, 1), 14);
        lawn = lawn(AROUND_NOUGHT + "goer a 0 1;goer b 3 0;");
        for (int goer = 0; goer < 2; goer++) {
            due("a waits for 0", lawn.meet(goer, 1 - goer, 0), 3);
            due("a waits for 0", lawn.meet(goer, 1 - goer, 1), 0);
        }
        lawn = lawn("lawn 5 2;goer a 0 0;goer b 0 0;goer c 1 0;goer d 2 0;goer e 4 1;tune 0 0 2 0;");
        says("(one and the same GOER: 0, where they are); -2: not; NONE: no such ones");
        due("meet(4, 4, 0)", lawn.meet(4, 4, 0), 0);
        due("meet(4, 4, 1)", lawn.meet(4, 4, 1), 9);
        int[] none = {-1, 5, 32, MOST, LEAST};
        for (int goer : none) {
            due("meet(0, " + goer + ", 0)", lawn.meet(0, goer, 0), NONE);
            due("meet(" + goer + ", 4, 1)", lawn.meet(goer, 4, 1), NONE);
            due("meet(" + goer + ", " + goer + ", 1)", lawn.meet(goer, goer, 1), NONE);
        }
        due("meet(0, 4, -1)", lawn.meet(0, 4, -1), NONE);
        due("meet(0, 4, 2)", lawn.meet(0, 4, 2), NONE);
        due("meet(4, 4, 2)", lawn.meet(4, 4, 2), NONE);
        BandstandLawn parted = lawn("lawn 3 2;rope 1 0;goer a 0 0;goer b 2 1;");
        due("meet", parted.meet(0, 1, 0), 2);
        due("meet", parted.meet(0, 1, 1), 3);
        parted.rope(4, true);
        due("meet, parted", parted.meet(0, 1, 0), NOT);
        due("meet, parted", parted.meet(0, 1, 1), NOT);
        due("meet, parted, what 2", parted.meet(0, 1, 2), NONE);
        due("meet, parted, itself", parted.meet(1, 1, 1), 5);
        // one who can neither stay nor go has no PATH
        BandstandLawn shut = lawn("lawn 2 2;rope 1 0;rope 0 1;tune 0 0 2 1;goer a 0 0;goer b 0 0;goer c 1 1;");
        due("meet in a cell that will SOUND", shut.meet(0, 1, 0), 0);
        due("meet, shut in", shut.meet(0, 2, 0), NOT);
    }

    // ---- as all go

    private void returns() {
        says("BACK of a GOER: behind how many BEATS (1 .. 100) they are first where they are now, as all go");
        due("one who stays", lawn("goer a 0 0;").returns(0), 1);
        due("one who goes to and fro", lawn("lawn 2 2;goer a 0 0;steps=1+2*left;").returns(0), 2);
        for (int time = 97; time <= 99; time++) {
            due("back behind " + (time + 1), lawn("lawn 2 2;goer a 0 0;steps=if time<" + time + " then 1 else 3;").returns(0),
                    time + 1);
        }
        due("back behind 101", lawn("lawn 2 2;goer a 0 0;steps=if time<100 then 1 else 3;").returns(0), NOT);
        due("never back", lawn("lawn 2 2;goer a 0 0;steps=1;").returns(0), NOT);
        BandstandLawn moved = lawn("lawn 2 2;goer a 0 0;tune 1 0 2 1;steps=1;moves=3;");
        due("moved back at once", moved.returns(0), 1);
        BandstandLawn later = lawn("lawn 2 2;goer a 0 0;steps=if time<100 then 1 else 3;");
        later.carry(0, 1);
        later.carry(0, 0);
        later.beats(1);
        due("where they are now: 1", later.returns(0), 1);
        says("BACK; -2: not; NONE: no such GOER");
        BandstandLawn two = lawn("lawn 2 2;goer a 0 0;goer b 1 1;steps=1;");
        due("returns(0)", two.returns(0), NOT);
        due("returns(1)", two.returns(1), 1);
        int[] none = {-1, 2, 5, 32, MOST, LEAST};
        for (int goer : none) {
            due("returns(" + goer + ")", two.returns(goer), NONE);
        }
    }

    private void never() {
        says("NEVER in n (0 .. 100): cells in which no GOER is behind 0, 1 .. n BEATS, as all go");
        for (int time = 98; time <= 100; time++) {
            BandstandLawn lawn = lawn("lawn 2 2;goer a 0 0;steps=if time<" + time + " then 0 else 1;");
            due("never(99), stepping at " + time, lawn.never(99), time < 99 ? 0b1100 : 0b1110);
            due("never(100), stepping at " + time, lawn.never(100), time < 100 ? 0b1100 : 0b1110);
        }
        BandstandLawn lawn = lawn("lawn 3 2;goer a 0 0;goer b 2 1;rope 1 1;steps=if which<1 then 1 else 4;");
        due("never(0)", lawn.never(0), 0b011110);
        due("never(1)", lawn.never(1), 0b011000);
        due("never(2)", lawn.never(2), 0b011000);
        due("without GOERS", new BandstandLawn().never(100), 65535);
        says("NEVER (bits); NONE: no such n");
        due("never(-1)", lawn.never(-1), NONE);
        due("never(101)", lawn.never(101), NONE);
        due("never(most)", lawn.never(MOST), NONE);
        due("never(least)", lawn.never(LEAST), NONE);
    }

    private void stood() {
        says("STOOD of a GOER in a cell in n (0 .. 100): behind how many of 0, 1 .. n BEATS they are there");
        BandstandLawn stays = lawn("goer a 3 3;");
        due("stood in 0", stays.stood(0, 15, 0), 1);
        due("stood in 1", stays.stood(0, 15, 1), 2);
        due("stood in 99", stays.stood(0, 15, 99), 100);
        due("stood in 100", stays.stood(0, 15, 100), 101);
        due("stood elsewhere", stays.stood(0, 14, 100), 0);
        for (int time = 98; time <= 100; time++) {
            BandstandLawn lawn = lawn("lawn 2 2;goer a 0 0;steps=if time<" + time + " then 0 else 1;");
            due("stood at 1, stepping at " + time, lawn.stood(0, 1, 100), 100 - time);
            due("stood at 0, stepping at " + time, lawn.stood(0, 0, 100), time + 1);
            due("stood at 1 in 99", lawn.stood(0, 1, 99), Math.max(0, 99 - time));
        }
        says("STOOD; NONE: no such ones");
        due("stood in -1", stays.stood(0, 15, -1), NONE);
        due("stood in 101", stays.stood(0, 15, 101), NONE);
        int[] none = {-1, 1, 32, MOST, LEAST};
        int[] noCell = {-1, 16, 47, MOST, LEAST};
        for (int i = 0; i < 5; i++) {
            due("stood of " + none[i], stays.stood(none[i], 15, 1), NONE);
            due("stood at " + noCell[i], stays.stood(0, noCell[i], 1), NONE);
        }
    }

    // ---- what sounds

    private void loud() {
        says("LOUD of n (0 .. 100): cells whose TUNE SOUNDS behind n BEATS");
        BandstandLawn lawn = lawn("lawn 5 5;tune 0 0 3 0;tune 1 0 3 1;tune 4 4 3 2;rope 4 4;");
        int[] cells = {1, 2, 1 << 24};
        for (int time = 0; time <= 3; time++) {
            due("loud(0) at " + time, lawn.loud(0), cells[time % 3]);
            due("loud(1) at " + time, lawn.loud(1), cells[(time + 1) % 3]);
            due("loud(99) at " + time, lawn.loud(99), cells[(time + 99) % 3]);
            due("loud(100) at " + time, lawn.loud(100), cells[(time + 100) % 3]);
            lawn.beats(1);
        }
        due("none", new BandstandLawn().loud(0), 0);
        says("LOUD (bits); NONE: no such n");
        due("loud(-1)", lawn.loud(-1), NONE);
        due("loud(101)", lawn.loud(101), NONE);
        due("loud(most)", lawn.loud(MOST), NONE);
        due("loud(least)", lawn.loud(LEAST), NONE);
    }

    /** Of 60 BEATS only that leaves 59 by 60 is silent. */
    private static final String ONE_SILENT = "lawn 5 5;tune 0 0 2 0;tune 1 0 4 1;tune 2 0 3 0;tune 3 0 3 1;tune 4 0 5 0;"
            + "tune 0 1 5 1;tune 1 1 5 2;tune 2 1 5 3;";

    private void silence() {
        says("SILENCE: the most BEATS on end, of those 0 .. 59 from now, behind which no TUNE SOUNDS");
        BandstandLawn lawn = lawn(ONE_SILENT);
        for (int time = 0; time <= 61; time++) {
            due("silence(0) at " + time, lawn.silence(0), 1);
            due("silence(1) at " + time, lawn.silence(1), (119 - time) % 60);
            lawn.beats(1);
        }
        due("no TUNE: all", new BandstandLawn().silence(0), 60);
        due("no TUNE: all", new BandstandLawn().silence(1), 0);
        says("behind how many the first of these, of as long ones the first");
        silences(new int[][] {{6, 5}});
        silences(new int[][] {{5, 0}, {6, 0}});
        silences(new int[][] {{5, 4}, {6, 5}, {4, 2}});
        silences(new int[][] {{2, 0}, {3, 0}, {5, 0}});
        silences(new int[][] {{4, 0}, {5, 1}, {6, 3}, {6, 1}});
        silences(new int[][] {{2, 0}, {3, 1}, {5, 1}, {5, 3}, {6, 3}, {4, 1}});
        silences(new int[][] {{2, 0}, {4, 1}, {3, 0}, {3, 1}, {5, 0}});
        says("SILENCE: what 0 how many, 1 behind how many (-2: none). NONE for others");
        lawn = lawn("tune 0 0 2 0;tune 1 0 2 1;");
        due("silence(0) without", lawn.silence(0), 0);
        due("silence(1) without", lawn.silence(1), NOT);
        int[] none = {-1, 2, MOST, LEAST};
        for (int what : none) {
            due("silence(" + what + ")", lawn.silence(what), NONE);
        }
        lawn.mow(1);
        due("silence(0)", lawn.silence(0), 1);
        due("silence(1)", lawn.silence(1), 1);
    }

    /** Reckoned by hand at each time of a round: a run of silence that is cut by the 60th counts as far as that. */
    private void silences(int[][] tunes) {
        StringBuilder text = new StringBuilder();
        for (int i = 0; i < tunes.length; i++) {
            text.append(tune(i, 4, tunes[i][0], tunes[i][1]));
        }
        BandstandLawn lawn = lawn(text.toString());
        for (int time = 0; time < 60; time++) {
            int longest = 0;
            int first = NOT;
            for (int from = 0; from < 60; from++) {
                int to = from;
                while (to < 60 && !anySounds(tunes, time + to)) {
                    to++;
                }
                if (to - from > longest) {
                    longest = to - from;
                    first = from;
                }
            }
            due("silence(0) at " + time + " of " + text, lawn.silence(0), longest);
            due("silence(1) at " + time + " of " + text, lawn.silence(1), first);
            lawn.beats(1);
        }
    }

    private static boolean anySounds(int[][] tunes, int time) {
        for (int[] tune : tunes) {
            if (time % tune[0] == tune[1]) {
                return true;
            }
        }
        return false;
    }

    private void chorus() {
        says("CHORUS: behind how many BEATS (0 .. 59) most TUNES SOUND at once, of alike ones the first; how many");
        BandstandLawn lawn = lawn("tune 0 0 3 2;tune 1 0 4 3;tune 2 0 5 4;");
        for (int time = 0; time <= 61; time++) {
            due("chorus(0) at " + time, lawn.chorus(0), (119 - time) % 60);
            due("chorus(1) at " + time, lawn.chorus(1), 3);
            lawn.beats(1);
        }
        lawn = lawn("lawn 5 5;tune 0 0 2 0;tune 1 0 2 0;tune 2 0 2 0;tune 3 0 2 0;tune 4 0 2 0;tune 0 1 2 0;tune 1 1 2 0;"
                + "tune 2 1 2 0;");
        due("8 now", lawn.chorus(0), 0);
        due("8 now", lawn.chorus(1), 8);
        lawn.beats(1);
        due("8 next", lawn.chorus(0), 1);
        due("no TUNES", new BandstandLawn().chorus(0), 0);
        due("no TUNES", new BandstandLawn().chorus(1), 0);
        lawn = lawn("tune 0 0 6 3;tune 1 0 6 5;");
        due("of alike ones the first", lawn.chorus(0), 3);
        due("of alike ones the first", lawn.chorus(1), 1);
        says("CHORUS: what 0 behind how many, 1 how many. NONE for others");
        int[] none = {-1, 2, MOST, LEAST};
        for (int what : none) {
            due("chorus(" + what + ")", lawn.chorus(what), NONE);
        }
    }

    private void period() {
        says("PERIOD: the fewest BEATS (1 or more) behind which each TUNE is in its BEAT as it is now");
        for (int set = 0; set < 32; set++) {
            StringBuilder text = new StringBuilder("lawn 5 5;");
            int want = 1;
            for (int beat = 2; beat <= 6; beat++) {
                if ((set >> beat - 2 & 1) != 0) {
                    text.append(tune(beat, 5, beat, beat - 1));
                    int least = want;
                    while (want % beat != 0) {
                        want += least;
                    }
                }
            }
            BandstandLawn lawn = lawn(text.toString());
            due("period of " + text, lawn.period(), want);
            lawn.beats(7);
            due("period of " + text + " at 7", lawn.period(), want);
        }
        due("in the first cell", lawn("lawn 5 5;tune 0 0 5 0;").period(), 5);
        due("in the last cell", lawn("lawn 5 5;tune 4 4 6 5;tune 0 0 4 0;").period(), 12);
    }

    // ---- how far

    private void centre() {
        says("CENTRE: the cell not roped off from which the greatest FAR to any cell not roped off is least (none counts 25),"
                + " of alike ones the lowest; how much");
        for (int wide = 2; wide <= 5; wide++) {
            for (int high = 2; high <= 5; high++) {
                BandstandLawn lawn = lawn("lawn " + wide + " " + high + ";");
                due("which", lawn.centre(0), (high - 1) / 2 * wide + (wide - 1) / 2);
                due("how much", lawn.centre(1), wide / 2 + high / 2);
            }
        }
        BandstandLawn lane = lawn(ROPES);
        due("the middle of a lane", lane.centre(0), 12);
        due("the middle of a lane", lane.centre(1), 8);
        says("CENTRE: what 0 which, 1 how much; -2: all are roped off. NONE for others");
        BandstandLawn lawn = lawn("lawn 2 2;");
        lawn.rope(0, true);
        due("three left", lawn.centre(0), 3);
        due("three left", lawn.centre(1), 1);
        lawn.rope(3, true);
        due("two aslant", lawn.centre(0), 1);
        due("two aslant: none counts 25", lawn.centre(1), 25);
        lawn.rope(3, false);
        lawn.rope(1, true);
        due("two beside", lawn.centre(0), 2);
        due("two beside", lawn.centre(1), 1);
        lawn.rope(2, true);
        due("one left", lawn.centre(0), 3);
        due("one left", lawn.centre(1), 0);
        lawn.rope(3, true);
        due("all roped off", lawn.centre(0), NOT);
        due("all roped off", lawn.centre(1), NOT);
        int[] none = {-1, 2, MOST, LEAST};
        for (int what : none) {
            due("centre(" + what + "), all roped off", lawn.centre(what), NONE);
            due("centre(" + what + ")", lane.centre(what), NONE);
        }
        // all cells but one are together: that one is as far from each as none
        BandstandLawn alone = lawn("lawn 3 3;rope 1 2;rope 2 1;");
        due("one alone", alone.centre(0), 0);
        due("one alone", alone.centre(1), 25);
    }

    private void far() {
        says("FAR of two cells: the fewest steps by cells not roped off (these two roped off or not)");
        BandstandLawn lawn = lawn("lawn 3 3;tune 1 1 2 0;");
        due("far(0, 8)", lawn.far(0, 8), 4);
        due("far(4, 4)", lawn.far(4, 4), 0);
        due("far(2, 3), of two rows", lawn.far(2, 3), 3);
        BandstandLawn roped = lawn("lawn 3 3;rope 1 1;rope 2 1;rope 0 1;");
        due("far(1, 4), to a rope", roped.far(1, 4), 1);
        due("far(4, 1), from a rope", roped.far(4, 1), 1);
        due("far(3, 4), of two ropes", roped.far(3, 4), 1);
        due("far(3, 5), of two ropes, not by a third", roped.far(3, 5), 4);
        due("far(4, 4), of one rope", roped.far(4, 4), 0);
        due("far(7, 4)", roped.far(7, 4), 1);
        due("far(6, 5)", roped.far(6, 5), 3);
        says("FAR; -2: there is none; NONE: no such cells");
        due("far(1, 7)", roped.far(1, 7), NOT);
        due("far(0, 8)", roped.far(0, 8), NOT);
        roped.rope(5, false);
        due("far(1, 7), let free", roped.far(1, 7), 4);
        int[] none = {-1, 9, 32, 41, MOST, LEAST};
        for (int cell : none) {
            due("far(0, " + cell + ")", roped.far(0, cell), NONE);
            due("far(" + cell + ", 0)", roped.far(cell, 0), NONE);
            due("far(" + cell + ", " + cell + ")", roped.far(cell, cell), NONE);
        }
        BandstandLawn lane = lawn(ROPES);
        due("far(0, 24) by a lane", lane.far(0, 24), 16);
        lane.rope(12, true);
        due("far(0, 24), cut", lane.far(0, 24), NOT);
        due("far(0, 12), cut", lane.far(0, 12), 8);
        due("far(11, 13), cut", lane.far(11, 13), NOT);
        BandstandLawn all = lawn("lawn 2 2;rope 0 0;rope 1 0;rope 0 1;rope 1 1;");
        due("far(0, 1), all roped off", all.far(0, 1), 1);
        due("far(0, 3), all roped off", all.far(0, 3), NOT);
    }

    private void paired(String goers, int sum, int... with) {
        BandstandLawn lawn = lawn("lawn 5 5;" + goers);
        due("pairs of " + goers, lawn.pairs(NONE), sum);
        for (int i = 0; i < with.length; i++) {
            due("pairs(" + i + ") of " + goers, lawn.pairs(i), with[i]);
        }
        due("pairs beyond", lawn.pairs(with.length), NONE);
        due("pairs(-2)", lawn.pairs(-2), NONE);
        due("pairs(5)", lawn.pairs(5), NONE);
        due("pairs(most)", lawn.pairs(MOST), NONE);
        due("pairs(least)", lawn.pairs(LEAST), NONE);
    }

    private void pairs() {
        says("PAIRS: how much (i NONE), else with whom the i-th GOER (-2: nobody); NONE: no such GOER");
        paired("", 0);
        paired("goer a 4 4;", 0, NOT);
        paired("goer a 0 0;goer b 4 4;", 8, 1, 0);
        paired("goer a 0 0;goer b 0 0;", 0, 1, 0);
        says("as many pairs of GOERS as can be, each in one at most, so that X and Y by which they differ, added, are least");
        // two pairs, however far, rather than one near
        paired("goer a 0 0;goer b 0 0;goer c 4 0;goer d 0 4;", 8, 1, 0, 3, 2);
        paired("goer a 0 0;goer b 4 4;goer c 0 0;goer d 4 4;", 0, 2, 3, 0, 1);
        paired("goer a 0 0;goer b 4 4;goer c 4 4;goer d 0 0;", 0, 3, 2, 1, 0);
        paired("goer a 0 0;goer b 1 0;goer c 3 0;goer d 4 0;goer e 4 4;", 2, 1, 0, 3, 2, NOT);
        says("with whom one is, of alike ones the lowest for the first, nobody behind all, then for the next one");
        paired("goer a 2 2;goer b 2 2;goer c 2 2;goer d 2 2;goer e 2 2;", 0, 1, 0, 3, 2, NOT);
        paired("goer a 1 1;goer b 0 1;goer c 2 1;", 1, 1, 0, NOT);
        paired("goer a 0 0;goer b 1 0;goer c 2 0;", 1, 1, 0, NOT);
        paired("goer a 3 0;goer b 1 0;goer c 2 0;", 1, 2, NOT, 0);
        paired("goer a 0 0;goer b 1 1;goer c 0 2;goer d 1 3;", 4, 1, 0, 3, 2);
        paired("goer a 0 0;goer b 2 0;goer c 2 2;goer d 0 2;goer e 1 1;", 4, 1, 0, 3, 2, NOT);
        paired("goer a 4 4;goer b 0 0;goer c 0 0;goer d 0 0;goer e 0 0;", 0, NOT, 2, 1, 4, 3);
    }

    // ---- IN n BEATS, YEAR

    private void inSoManyBeats() {
        says("IN n BEATS (0 .. 100; TUNES spread): where a GOER is; how often they were moved; which cells have a TUNE");
        for (int time = 98; time <= 100; time++) {
            BandstandLawn lawn = lawn("lawn 3 2;goer a 0 0;tune 0 1 2 0;steps=if time<" + time + " then 0 else 1;spreads=time-"
                    + time + ";wet 100;");
            due("then(0, 99, 0)", lawn.then(0, 99, 0), time < 99 ? 99 - time : 0);
            due("then(0, 100, 0)", lawn.then(0, 100, 0), 100 - time);
            due("tunesIn(99)", lawn.tunesIn(99), time < 99 ? 0b011000 : 0b001000);
            due("tunesIn(100)", lawn.tunesIn(100), time < 99 ? 0b111000 : time < 100 ? 0b011000 : 0b001000);
            due("year(4, 99, 2)", lawn.year(4, 99, 2), time < 99 ? 2 : 0);
            due("year(4, 100, 2)", lawn.year(4, 100, 2), time < 100 ? 2 : 0);
            due("then(0, 0, 0)", lawn.then(0, 0, 0), 0);
            due("tunesIn(0)", lawn.tunesIn(0), 0b001000);
        }
        BandstandLawn moved = lawn("lawn 2 2;goer a 0 0;tune 0 0 2 1;moves=0;");
        int[] often = {0, 1, 1, 2, 2};
        for (int n = 0; n < 5; n++) {
            due("then(0, " + n + ", 1)", moved.then(0, n, 1), often[n]);
        }
        due("then(0, 100, 1)", moved.then(0, 100, 1), 50);
        moved.beats(3);
        due("so far: then(0, 0, 1)", moved.then(0, 0, 1), 2);
        due("so far: then(0, 2, 1)", moved.then(0, 2, 1), 3);
        says("IN n BEATS of a GOER: what 0 in which cell, 1 how often moved so far; NONE: no such ones");
        int[] none = {-1, 1, 32, MOST, LEAST};
        int[] noSpan = {-1, 101, 132, MOST, LEAST};
        int[] noWhat = {-1, 2, 3, MOST, LEAST};
        for (int i = 0; i < 5; i++) {
            due("then(" + none[i] + ", 1, 0)", moved.then(none[i], 1, 0), NONE);
            due("then(0, " + noSpan[i] + ", 0)", moved.then(0, noSpan[i], 0), NONE);
            due("then(0, 1, " + noWhat[i] + ")", moved.then(0, 1, noWhat[i]), NONE);
        }
        says("IN n BEATS which cells have a TUNE (bits); NONE: no such n");
        for (int n : noSpan) {
            due("tunesIn(" + n + ")", moved.tunesIn(n), NONE);
        }
    }

    private void year() {
        says("YEAR by s SEEDS (1 .. 20) from the text's SEED on: in how many of them a cell has a TUNE in n BEATS (0 .. 100)");
        // LOT 100 of SEEDS 9999 .. 10018, time 1 and cell 0, reckoned apart from the class
        int[] lots = {92, 20, 86, 26, 40, 19, 36, 92, 71, 65, 95, 98, 73, 64, 24, 43, 22, 10, 45, 64};
        BandstandLawn lawn = lawn("lawn 5 2;tune 0 0 2 1;spreads=1;wet 50;seed 9999;");
        int many = 0;
        for (int s = 1; s <= 20; s++) {
            many += lots[s - 1] < 50 ? 1 : 0;
            due("year(1, 1, " + s + ")", lawn.year(1, 1, s), many);
            due("year(0, 1, " + s + ")", lawn.year(0, 1, s), s);
            due("year(1, 0, " + s + ")", lawn.year(1, 0, s), 0);
            due("year(0, 0, " + s + ")", lawn.year(0, 0, s), s);
            due("year(5, 100, " + s + ")", lawn.year(5, 100, s), 0);
        }
        due("year(4, 100, 20)", lawn.year(4, 100, 20), 20);
        says("YEAR; NONE: no such ones");
        int[] noCell = {-1, 10, 32, MOST, LEAST};
        int[] noSpan = {-1, 101, 132, MOST, LEAST};
        int[] noSeeds = {0, 21, -1, MOST, LEAST};
        for (int i = 0; i < 5; i++) {
            due("year(" + noCell[i] + ", 1, 1)", lawn.year(noCell[i], 1, 1), NONE);
            due("year(0, " + noSpan[i] + ", 1)", lawn.year(0, noSpan[i], 1), NONE);
            due("year(0, 1, " + noSeeds[i] + ")", lawn.year(0, 1, noSeeds[i]), NONE);
        }
        due("year(9, 1, 1)", lawn.year(9, 1, 1), 0);
        lawn.mow(0);
        due("year(0, 0, 20), mown", lawn.year(0, 0, 20), 0);
    }

    // ---- part IV

    private void tell() {
        says("TOLD: that a TUNE unknown SOUNDS at a time (0 .. 59), or does not; 20 at most, numbered from 0 on");
        BandstandLawn lawn = new BandstandLawn();
        int[] none = {-1, 60, 64, 256, MOST, LEAST};
        for (int time : none) {
            due("tell(" + time + ", true)", lawn.tell(time, true), NONE);
            due("tell(" + time + ", false)", lawn.tell(time, false), NONE);
        }
        due("TOLD", lawn.count(10), 0);
        due("tell(0)", lawn.tell(0, true), 0);
        due("tell(59)", lawn.tell(59, false), 1);
        due("tell(0) again", lawn.tell(0, true), 2);
        for (int i = 3; i < 20; i++) {
            due("tell, number " + i, lawn.tell(2 * i, i % 3 == 0), i);
        }
        says("It is TOLD: its number; NONE, and nothing happens: 20 are there, no such time");
        String before = Check.seen(lawn);
        due("a 21st", lawn.tell(1, true), NONE);
        due("a 21st", lawn.tell(1, false), NONE);
        check.same("a 21st", before, Check.seen(lawn));
        due("fits(21, 0)", lawn.fits(21, 0), NONE);
        says("All that was TOLD is forgotten: how many there were");
        due("forget 20", lawn.forget(), 20);
        due("forget none", lawn.forget(), 0);
        due("tell behind it", lawn.tell(59, true), 0);
        due("forget one", lawn.forget(), 1);
        due("things done", lawn.count(9), 0);
    }

    private void fits() {
        says("KNOWN by k: the first k");
        BandstandLawn lawn = new BandstandLawn();
        lawn.tell(0, true);
        lawn.tell(59, true);
        lawn.tell(1, false);
        int[] many = {20, 5, 0, 0};
        int[] first = {20, 20, NOT, NOT};
        for (int k = 0; k <= 3; k++) {
            due("fits(" + k + ", 0)", lawn.fits(k, 0), many[k]);
            due("fits(" + k + ", 1)", lawn.fits(k, 1), first[k]);
        }
        says("TUNES THAT FIT, as KNOWN by k: what 0 how many, 1 the first (-2: none); NONE: no such ones");
        int[] none = {-1, 4, 20, 21, MOST, LEAST};
        for (int k : none) {
            due("fits(" + k + ", 0)", lawn.fits(k, 0), NONE);
            due("fits(" + k + ", 1)", lawn.fits(k, 1), NONE);
        }
        int[] noWhat = {-1, 2, MOST, LEAST};
        for (int what : noWhat) {
            due("fits(1, " + what + ")", lawn.fits(1, what), NONE);
            due("fits(3, " + what + ")", lawn.fits(3, what), NONE);
        }
        says("BEATS 2 .. 6, of each all OFFSETS, by which all that is KNOWN is so: how many; the first (10 * the BEAT + the"
                + " OFFSET), by BEATS, then OFFSETS");
        for (int time = 0; time < 60; time++) {
            lawn.forget();
            lawn.tell(time, true);
            lawn.tell((time + 30) % 60, true);
            due("SOUNDS at " + time, lawn.fits(1, 0), 5);
            due("the first", lawn.fits(1, 1), 20 + time % 2);
            // 30 on, a BEAT of 4 is not where it was
            due("and 30 on", lawn.fits(2, 0), 4);
        }
        lawn = new BandstandLawn();
        // silent at 0, 1 .. k - 1: what is left has an OFFSET that is not below k
        int[] left = {20, 15, 10, 6, 3, 1, 0};
        int[] firsts = {20, 21, 32, 43, 54, 65, NOT};
        for (int k = 0; k <= 6; k++) {
            due("silent up to " + k + ", how many", lawn.fits(k, 0), left[k]);
            due("silent up to " + k + ", the first", lawn.fits(k, 1), firsts[k]);
            lawn.tell(k, false);
        }
        for (int beat = 2; beat <= 6; beat++) {
            for (int offset = 0; offset < beat; offset++) {
                BandstandLawn alone = new BandstandLawn();
                for (int time = 40; time < 60; time++) {
                    alone.tell(time, time % beat == offset);
                }
                due("one is left", alone.fits(20, 0), 1);
                due("which", alone.fits(20, 1), 10 * beat + offset);
            }
        }
    }

    private void listen() {
        says("LISTEN: the time (0 .. 59) of which, once it is told so, fewest are left, at worst; of alike ones the first");
        BandstandLawn lawn = new BandstandLawn();
        due("listen(0)", lawn.listen(0), 0);
        // reckoned apart from the class: what was silent, and when to listen
        int[][] silent = {{6}, {27}, {9}, {51, 8}, {54, 25, 36}, {10, 15, 52}, {6, 13, 48}, {11, 34, 28}, {16, 58, 45},
            {59, 0, 17}};
        int[] want = {5, 4, 2, 10, 23, 29, 35, 45, 47, 46};
        for (int i = 0; i < silent.length; i++) {
            lawn.forget();
            for (int time : silent[i]) {
                lawn.tell(time, false);
            }
            due("listen, row " + i, lawn.listen(silent[i].length), want[i]);
            due("listen(0)", lawn.listen(0), 0);
        }
        says("LISTEN, as KNOWN by k; -2: none is left; NONE: no such k");
        lawn.forget();
        due("listen(0)", lawn.listen(0), 0);
        due("listen(1)", lawn.listen(1), NONE);
        lawn.tell(4, true);
        lawn.tell(9, true);
        due("one is left", lawn.fits(2, 0), 1);
        due("listen(2): any, the first", lawn.listen(2), 0);
        lawn.tell(4, false);
        due("none is left", lawn.listen(3), NOT);
        int[] none = {-1, 4, 20, 21, MOST, LEAST};
        for (int k : none) {
            due("listen(" + k + ")", lawn.listen(k), NONE);
        }
        for (int i = 3; i < 20; i++) {
            lawn.tell(9, true);
        }
        due("listen(20)", lawn.listen(20), NOT);
        due("listen(21)", lawn.listen(21), NONE);
        due("listen(2) still", lawn.listen(2), 0);
    }
}
