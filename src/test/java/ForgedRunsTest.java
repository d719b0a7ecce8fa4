import java.util.Random;
import java.util.TreeMap;

/**
 * Runs in which lost writes leave log blocks that are good though they were never written whole,
 * with numbers and versions that are right or nearly so; each answer is compared to the model's.
 */
public final class ForgedRunsTest {
    private static final int RUNS = 3000;
    // No step makes more than a hundred calls, and 512 are promised.
    private static final int MOST_CALLS = 400;
    // So few that never more than 20 have a number, whatever a forged block does.
    private static final int KEYS = 16;

    private final Random random;
    private final Twin twin;
    private final TreeMap<String, Integer> ends;
    private int planted = 0;
    private int words = 0;
    private int kind = 0;

    private ForgedRunsTest(int run, TreeMap<String, Integer> seen, TreeMap<String, Integer> ends) {
        twin = new Twin("run " + run, seen);
        random = new Random(run);
        this.ends = ends;
    }

    public static void main(String[] args) {
        TreeMap<String, Integer> seen = new TreeMap<>();
        TreeMap<String, Integer> ends = new TreeMap<>();
        for (int run = 0; run < RUNS; run++) {
            new ForgedRunsTest(run, seen, ends).go();
        }
        System.out.println(ends);
        String[] due = {"good", "epoch", "number", "version", "right though lost",
            "right later"};
        for (String one : due) {
            Check.due("how often " + one, ends.getOrDefault(one, 0) > 200, true);
        }
        Check.end();
    }

    private void go() {
        while (twin.isRight() && twin.calls() < MOST_CALLS) {
            int pick = random.nextInt(12);
            if (twin.model.left() < 20 || pick == 0) {
                twin.checkpoint();
            } else if (pick < 3) {
                commitSome(1 + random.nextInt(3));
            } else if (pick < 6) {
                plant();
            } else if (pick < 10) {
                tear();
            } else if (pick < 11) {
                becomeRight();
            } else {
                recoverAndLook(twin.model.version(), "right later");
            }
        }
    }

    private int logNext() {
        return 96 - twin.model.left();
    }

    private void commitSome(int howMany) {
        twin.begin(0);
        for (int key = 0; key < howMany; key++) {
            twin.put(0, key + random.nextInt(2) * 8, random.nextInt(4));
        }
        if (random.nextInt(3) == 0) {
            twin.remove(0, random.nextInt(KEYS));
        }
        twin.commit(0);
    }

    /** Writes for so many keys, each less than the next one's; some say that there is none. */
    private void beginFront(int howMany) {
        twin.begin(0);
        for (int key = 0; key < howMany; key++) {
            twin.put(0, key, random.nextInt(4));
            if (random.nextInt(4) == 0) {
                twin.remove(0, key);
            }
        }
    }

    private void lose(int n, int w) {
        int before = twin.model.version();
        twin.arm(n, w);
        twin.commit(0);
        recoverAndLook(before, "right though lost");
    }

    /** As Forge.plant, with a check that a lost write into the block may make right. */
    private void plant() {
        int epoch = twin.model.epoch();
        int front = random.nextInt(4);
        int block = logNext() + front;
        int key = front + random.nextInt(4);
        int number = twin.model.version() + random.nextInt(4);
        words = 1 + random.nextInt(3);
        kind = random.nextInt(3) == 0 ? 1 + random.nextInt(2) : 3;
        int second = words == 1 ? key : kind == 3 ? 1 + random.nextInt(4) : front;
        int third = words < 3 ? number : twin.model.version() + 1 + random.nextInt(2);
        int later = random.nextInt(3) == 0 ? 1 : 0;
        int check = Forge.check(block, 4 * (epoch + later) + kind, second, third);
        plantWords(block, front, key, number, check);
        if (later == 1 && random.nextInt(2) == 0) {
            twin.checkpoint();
        }
    }

    private void plantWords(int block, int front, int key, int number, int check) {
        planted = block;
        beginFront(front);
        twin.put(0, key, Forge.numberFor(block, 4 * twin.model.epoch() + 1, key, check));
        lose(front + 1, 0);
        // A forged end behind it may have counted, and then the block is not free any more.
        if (logNext() + front == block) {
            beginFront(front);
            twin.put(0, key, number);
            lose(front, 3);
        }
    }

    /** A commit is lost in the block that was planted last, in its end or in one of its writes. */
    private void tear() {
        int front = planted - logNext();
        if (front < (kind == 3 ? 1 : 0) || front >= KEYS - 1) {
            return;
        }
        beginFront(front);
        if (kind != 3) {
            twin.put(0, front, random.nextInt(4));
            if (kind == 2) {
                twin.remove(0, front);
            }
        }
        lose(front, words);
    }

    /** An end that is wrong when it is torn, and may be right behind a later commit. */
    private void becomeRight() {
        twin.checkpoint();
        int inFront = 1 + random.nextInt(2);
        commitSome(inFront);
        int front = 1 + random.nextInt(2);
        int number = front + random.nextInt(6) / 5;
        int version = twin.model.version() + 2 + random.nextInt(6) / 5;
        plantEnd(logNext() + front, front, number, version);
        twin.checkpoint();
        tear();
        commitSome(inFront);
        if (random.nextInt(3) == 0) {
            twin.begin(0);
            twin.put(0, random.nextInt(KEYS), random.nextInt(4));
            lose(0, random.nextInt(4));
        }
        recoverAndLook(twin.model.version(), "right later");
    }

    private void plantEnd(int block, int front, int number, int version) {
        words = 1;
        kind = 3;
        int check = Forge.check(block, 4 * (twin.model.epoch() + 1) + kind, number, version);
        plantWords(block, front, number, version, check);
    }

    /** Recovers, and counts why the log was gone through no further, and what came unlooked for. */
    private void recoverAndLook(int committed, String more) {
        twin.recover();
        ends.merge(twin.model.ended(), 1, Integer::sum);
        if (twin.model.version() > committed) {
            ends.merge(more, 1, Integer::sum);
        }
        twin.left();
        twin.count();
        twin.begin(1);
        twin.next(1, random.nextInt(KEYS));
        twin.number(random.nextInt(KEYS));
        twin.drop(1);
    }
}
