import java.util.Random;
import java.util.TreeMap;

/** Long runs of mixed calls, the same each time, with each answer compared to the model's. */
public final class ModelTest {
    private static final int RUNS = 3000;
    private static final int MOST_CALLS = 512;
    private static final int WORDS = 96 * 4;

    private final Random random;
    private final Twin twin;
    private final boolean wholeDisk;
    private final int keys;
    private final int power;

    private ModelTest(int run, TreeMap<String, Integer> seen) {
        twin = new Twin("run " + run, seen);
        random = new Random(run);
        wholeDisk = run % 2 == 0;
        // Few keys make conflicts, many make a full store; some runs lose the power often.
        keys = new int[] {3, 12, 30, 64}[run % 4];
        power = new int[] {0, 4, 12}[run / 4 % 3];
    }

    public static void main(String[] args) {
        TreeMap<String, Integer> seen = new TreeMap<>();
        for (int run = 0; run < RUNS; run++) {
            new ModelTest(run, seen).go();
        }
        System.out.println(seen);
        everythingWasSeen(seen);
        Check.end();
    }

    /** A run that never met a case would show nothing of it. */
    private static void everythingWasSeen(TreeMap<String, Integer> seen) {
        String[] due = {"commit UnsupportedOperationException", "commit ArithmeticException",
            "commit IllegalStateException", "checkpoint IllegalStateException",
            "remove NoSuchElementException", "get NoSuchElementException",
            "begin UnsupportedOperationException", "number IllegalArgumentException"};
        for (String one : due) {
            Check.due("was there a " + one, seen.getOrDefault(one, 0) > 20, true);
        }
    }

    private void go() {
        int mixed = wholeDisk ? MOST_CALLS - WORDS : MOST_CALLS;
        while (twin.isRight() && twin.calls() < mixed) {
            one();
        }
        for (int i = 0; wholeDisk && twin.isRight() && i < WORDS; i++) {
            twin.word(i / 4, i % 4);
        }
    }

    private void one() {
        int t = random.nextInt(20) == 0 ? random.nextInt(6) - 2 : random.nextInt(3);
        int key = random.nextInt(20) == 0 ? random.nextInt(70) - 3 : random.nextInt(keys);
        int number = random.nextInt(4) == 0 ? random.nextInt() : random.nextInt(5);
        int pick = random.nextInt(100);
        if (twin.model.isDown() && random.nextInt(3) == 0) {
            twin.recover();
        } else if (random.nextInt(100) < power) {
            twin.arm(random.nextInt(14) - 1, random.nextInt(6) - 1);
        } else if (pick < 18) {
            twin.begin(t);
        } else if (pick < 50) {
            twin.put(t, key, number);
        } else if (pick < 57) {
            twin.remove(t, key);
        } else if (pick < 68) {
            twin.commit(t);
        } else if (pick < 70) {
            twin.drop(t);
        } else {
            look(t, key);
        }
    }

    private void look(int t, int key) {
        switch (random.nextInt(15)) {
            case 0 -> twin.recover();
            case 1 -> twin.checkpoint();
            case 2 -> twin.isDown();
            case 3 -> twin.count();
            case 4 -> twin.version();
            case 5 -> twin.left();
            case 6, 7 -> twin.number(key);
            case 8, 9 -> twin.next(t, key);
            case 10, 11, 12 -> twin.get(t, key);
            default -> twin.word(random.nextInt(100) - 2, random.nextInt(6) - 1);
        }
    }
}
