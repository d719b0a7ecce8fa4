import java.util.ArrayList;
import java.util.List;
import java.util.TreeMap;

/**
 * The power is lost in every write of a run, after every word: what comes back is all that was
 * committed, and nothing else; and the store goes on from there as if nothing had been.
 */
public final class CrashTest {
    private static final int STEPS = 14;

    public static void main(String[] args) {
        int writes = writesOfTheRun();
        Check.due("writes of the run", writes > 60, true);
        List<TreeMap<Integer, Integer>> states = states();
        for (int n = 0; n < writes; n++) {
            for (int w = 0; w < 4; w++) {
                loseOnce(n, w, states);
                loseTwice(n, w, states);
            }
        }
        Check.end();
    }

    /** A step is a checkpoint, or a commit of some puts and removals. */
    private static void step(LoggedStore x, int step) {
        if (step % 4 == 3) {
            x.checkpoint();
            return;
        }
        x.begin(0);
        for (int key = step % 3; key < 12; key += 1 + step % 4) {
            x.put(0, key, 100 * step + key);
        }
        if (step % 2 == 1) {
            for (int key = x.next(0, 0); key >= 0 && key < 6; key = x.next(0, key)) {
                x.remove(0, key);
            }
        }
        x.commit(0);
    }

    private static TreeMap<Integer, Integer> numbersOf(LoggedStore x) {
        TreeMap<Integer, Integer> numbers = new TreeMap<>();
        x.begin(1);
        for (int key = x.next(1, 0); key >= 0; key = key == 63 ? -1 : x.next(1, key + 1)) {
            numbers.put(key, x.get(1, key));
            Check.due("number(" + key + ")", x.number(key), x.get(1, key));
        }
        x.drop(1);
        Check.due("count()", x.count(), numbers.size());
        return numbers;
    }

    private static int writesOfTheRun() {
        for (int n = 0; n < 1000; n++) {
            LoggedStore x = new LoggedStore();
            x.arm(n, 0);
            if (Check.exceptionOf(() -> steps(x, 0, STEPS)) == null) {
                return n;
            }
        }
        return -1;
    }

    private static void steps(LoggedStore x, int from, int end) {
        for (int step = from; step < end; step++) {
            step(x, step);
        }
    }

    /** What the store is before each step, by runs whose power holds. */
    private static List<TreeMap<Integer, Integer>> states() {
        List<TreeMap<Integer, Integer>> states = new ArrayList<>();
        for (int end = 0; end <= STEPS; end++) {
            LoggedStore x = new LoggedStore();
            steps(x, 0, end);
            states.add(numbersOf(x));
        }
        return states;
    }

    /** Goes on until the power is lost, and answers in which step it was. */
    private static int goUntilLost(LoggedStore x, int from) {
        for (int step = from; step < STEPS; step++) {
            int it = step;
            int left = x.left();
            int version = x.version();
            if (Check.exceptionOf(() -> step(x, it)) != null) {
                Check.due("isDown()", x.isDown(), true);
                Check.due("recover()", x.recover(), version);
                Check.due("left()", x.left(), left);
                return step;
            }
        }
        return STEPS;
    }

    private static void loseOnce(int n, int w, List<TreeMap<Integer, Integer>> states) {
        LoggedStore x = new LoggedStore();
        x.arm(n, w);
        int lost = goUntilLost(x, 0);
        Check.due("lost", lost < STEPS, true);
        Check.due("what came back, n " + n + " w " + w, numbersOf(x), states.get(lost));
        steps(x, lost, STEPS);
        Check.due("the end of the run, n " + n + " w " + w, numbersOf(x), states.get(STEPS));
        x.recover();
        Check.due("the end, recovered, n " + n + " w " + w, numbersOf(x), states.get(STEPS));
    }

    /** The second loss meets what the first one left on the disk. */
    private static void loseTwice(int n, int w, List<TreeMap<Integer, Integer>> states) {
        LoggedStore x = new LoggedStore();
        x.arm(n, w);
        int lost = goUntilLost(x, 0);
        x.arm(n % 7, 3 - w);
        int again = goUntilLost(x, lost);
        Check.due("what came back twice, n " + n + " w " + w, numbersOf(x), states.get(again));
        x.recover();
        steps(x, again, STEPS);
        Check.due("the end of the run, n " + n + " w " + w, numbersOf(x), states.get(STEPS));
    }
}
