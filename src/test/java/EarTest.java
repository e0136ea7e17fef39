import java.util.ArrayDeque;
import java.util.ArrayList;
import java.util.Deque;
import java.util.HashSet;
import java.util.List;
import java.util.Set;

/**
 * TUNES THAT FIT and LISTEN, of all that can ever be KNOWN: what is told is gone on from until no telling leaves other
 * TUNES than some told before. So each set of TUNES that can be left is asked of once, and the last time told is known.
 */
public final class EarTest {
    private static final Check CHECK = new Check();

    /** What is told, 100 * the time and 1 more if it SOUNDS, and which TUNES (10 * BEAT + OFFSET) are left by it. */
    private record Known(List<Integer> told, List<Integer> left) {
    }

    public static void main(String[] args) {
        CHECK.says("TUNES THAT FIT .. LISTEN: .. fewest are left, at worst; of alike ones the first");
        Set<List<Integer>> seen = new HashSet<>();
        Deque<Known> open = new ArrayDeque<>(List.of(new Known(List.of(), allTunes())));
        seen.add(allTunes());
        int[] times = new int[60];
        int most = 0;
        while (!open.isEmpty()) {
            Known known = open.remove();
            most = Math.max(most, known.told().size());
            int time = ask(known);
            if (time >= 0) {
                times[time]++;
            }
            for (int telling = 0; telling < 6000; telling += telling % 100 == 0 ? 1 : 99) {
                List<Integer> left = leftBy(known.left(), telling / 100, telling % 100 == 1);
                if (seen.add(left)) {
                    List<Integer> told = new ArrayList<>(known.told());
                    told.add(telling);
                    open.add(new Known(told, left));
                }
            }
        }
        CHECK.says("LISTEN: the time (0 .. 59)");
        for (int time = 0; time < 60; time++) {
            CHECK.due("LISTEN tells " + time + " somewhere", times[time] > 0, time <= 47);
        }
        System.out.println(seen.size() + " sets of TUNES can be left, by " + most + " tellings at most");
        CHECK.end("EarTest");
    }

    private static List<Integer> allTunes() {
        List<Integer> tunes = new ArrayList<>();
        for (int beat = 2; beat <= 6; beat++) {
            for (int offset = 0; offset < beat; offset++) {
                tunes.add(10 * beat + offset);
            }
        }
        return tunes;
    }

    private static List<Integer> leftBy(List<Integer> tunes, int time, boolean sounds) {
        List<Integer> left = new ArrayList<>();
        for (int tune : tunes) {
            if ((time % (tune / 10) == tune % 10) == sounds) {
                left.add(tune);
            }
        }
        return left;
    }

    /** Answers when to LISTEN, as it is due. */
    private static int ask(Known known) {
        BandstandLawn lawn = new BandstandLawn();
        int k = known.told().size();
        for (int i = 0; i < k; i++) {
            int telling = known.told().get(i);
            CHECK.due("tell of " + known.told(), lawn.tell(telling / 100, telling % 100 == 1), i);
        }
        int best = -2;
        int fewest = 0;
        for (int time = 0; time < 60 && !known.left().isEmpty(); time++) {
            int worst = Math.max(leftBy(known.left(), time, true).size(), leftBy(known.left(), time, false).size());
            if (best == -2 || worst < fewest) {
                best = time;
                fewest = worst;
            }
        }
        CHECK.due("fits(.., 0), told " + known.told(), lawn.fits(k, 0), known.left().size());
        CHECK.due("fits(.., 1), told " + known.told(), lawn.fits(k, 1), known.left().isEmpty() ? -2 : known.left().get(0));
        CHECK.due("listen, told " + known.told(), lawn.listen(k), best);
        return best;
    }
}
