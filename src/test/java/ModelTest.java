import java.util.Random;
import java.util.TreeMap;

/** Long runs of mixed calls, the same each time, with each answer compared to the model's. */
public final class ModelTest {
    private static final int RUNS = 3000;
    private static final int MOST_CALLS = 512;
    private static final int WORDS = 96 * 4;

    private final Random random;
    private final int run;
    private final LoggedStore store = new LoggedStore();
    private final Model model = new Model();
    private final TreeMap<String, Integer> seen;
    private final int keys;
    private final int power;
    private String calls = "";

    private ModelTest(int run, TreeMap<String, Integer> seen) {
        this.run = run;
        this.seen = seen;
        random = new Random(run);
        // Few keys make conflicts, many make a full store; some runs lose the power often.
        keys = new int[] {3, 12, 30, 64}[run % 4];
        power = new int[] {0, 4, 12}[run / 4 % 3];
    }

    public static void main(String[] args) {
        TreeMap<String, Integer> seen = new TreeMap<>();
        for (int run = 0; run < RUNS; run++) {
            new ModelTest(run, seen).go();
        }
        System.out.println(seen);
        everythingWasSeen(seen);
        Check.end();
    }

    /** A run that never met a case would show nothing of it. */
    private static void everythingWasSeen(TreeMap<String, Integer> seen) {
        String[] due = {"commit UnsupportedOperationException", "commit ArithmeticException",
            "commit IllegalStateException", "checkpoint IllegalStateException",
            "remove NoSuchElementException", "get NoSuchElementException",
            "begin UnsupportedOperationException", "number IllegalArgumentException"};
        for (String one : due) {
            Check.due("was there a " + one, seen.getOrDefault(one, 0) > 20, true);
        }
    }

    private void go() {
        boolean whole = run % 2 == 0;
        int mixed = whole ? MOST_CALLS - WORDS : MOST_CALLS;
        for (int i = 0; i < mixed; i++) {
            if (!one()) {
                return;
            }
        }
        for (int i = 0; whole && i < WORDS; i++) {
            int at = i;
            if (!same("word(" + at / 4 + ", " + at % 4 + ")", () -> store.word(at / 4, at % 4),
                    () -> model.word(at / 4, at % 4))) {
                return;
            }
        }
    }

    private boolean one() {
        int t = random.nextInt(20) == 0 ? random.nextInt(6) - 2 : random.nextInt(3);
        int key = random.nextInt(20) == 0 ? random.nextInt(70) - 3 : random.nextInt(keys);
        int number = random.nextInt(4) == 0 ? random.nextInt() : random.nextInt(5);
        if (model.isDown() && random.nextInt(3) == 0) {
            return same("recover()", () -> store.recover(), () -> model.recover());
        }
        if (random.nextInt(100) < power) {
            return armed();
        }
        int pick = random.nextInt(100);
        if (pick < 18) {
            return same("begin(" + t + ")", () -> store.begin(t), () -> model.begin(t));
        } else if (pick < 50) {
            return same("put(" + t + ", " + key + ", " + number + ")",
                    () -> store.put(t, key, number), () -> model.put(t, key, number));
        } else if (pick < 57) {
            return same("remove(" + t + ", " + key + ")", () -> removed(t, key),
                    () -> removedOfModel(t, key));
        } else if (pick < 68) {
            return same("commit(" + t + ")", () -> store.commit(t), () -> model.commit(t));
        } else if (pick < 70) {
            return same("drop(" + t + ")", () -> store.drop(t), () -> model.drop(t));
        }
        return look(t, key, pick);
    }

    private boolean look(int t, int key, int pick) {
        int block = random.nextInt(100) - 2;
        int i = random.nextInt(6) - 1;
        switch (pick) {
            case 70:
                return same("checkpoint()", () -> store.checkpoint(), () -> model.checkpoint());
            case 74:
                return same("recover()", () -> store.recover(), () -> model.recover());
            case 75: case 76:
                return same("isDown()", () -> store.isDown(), () -> model.isDown());
            case 77: case 78:
                return same("count()", () -> store.count(), () -> model.count());
            case 79: case 80:
                return same("version()", () -> store.version(), () -> model.version());
            case 81: case 82:
                return same("left()", () -> store.left(), () -> model.left());
            case 83: case 84: case 85: case 86:
                return same("number(" + key + ")", () -> store.number(key), () -> model.number(key));
            case 87: case 88: case 89:
                return same("next(" + t + ", " + key + ")", () -> store.next(t, key),
                        () -> model.next(t, key));
            case 90: case 91: case 92: case 93: case 94:
                return same("get(" + t + ", " + key + ")", () -> store.get(t, key),
                        () -> model.get(t, key));
            default:
                return same("word(" + block + ", " + i + ")", () -> store.word(block, i),
                        () -> model.word(block, i));
        }
    }

    private boolean armed() {
        int n = random.nextInt(14) - 1;
        int w = random.nextInt(6) - 1;
        calls += " arm(" + n + ", " + w + ")";
        store.arm(n, w);
        model.arm(n, w);
        return true;
    }

    private Object removed(int t, int key) {
        store.remove(t, key);
        return "done";
    }

    private Object removedOfModel(int t, int key) {
        model.remove(t, key);
        return "done";
    }

    private interface Call {
        Object answer();
    }

    private boolean same(String call, Call got, Call want) {
        Object due = answerOf(want);
        Object answer = answerOf(got);
        String kind = call.substring(0, call.indexOf('(')) + (due instanceof String ? " " + due : "");
        seen.merge(kind, 1, Integer::sum);
        calls += " " + call;
        Check.due("run " + run + ":" + (answer.equals(due) ? "" : calls), answer, due);
        return answer.equals(due);
    }

    private static Object answerOf(Call call) {
        try {
            return call.answer();
        } catch (RuntimeException e) {
            return e.getClass().getSimpleName();
        }
    }
}
