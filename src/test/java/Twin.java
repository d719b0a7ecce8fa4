import java.util.TreeMap;

/** A store and a model that get the same calls; each answer is compared to the model's. */
final class Twin {
    final Model model = new Model();
    private final LoggedStore store = new LoggedStore();
    private final String name;
    // How often each call gave which kind of answer, over all twins of a test.
    private final TreeMap<String, Integer> seen;
    private final StringBuilder text = new StringBuilder();
    private int calls = 0;
    private boolean right = true;

    private interface Call {
        Object answer();
    }

    Twin(String name, TreeMap<String, Integer> seen) {
        this.name = name;
        this.seen = seen;
    }

    int calls() {
        return calls;
    }

    /** Whether all answers were right so far: behind a wrong one, all others may be wrong. */
    boolean isRight() {
        return right;
    }

    void begin(int t) {
        same("begin(" + t + ")", () -> store.begin(t), () -> model.begin(t));
    }

    void get(int t, int key) {
        same("get(" + t + ", " + key + ")", () -> store.get(t, key), () -> model.get(t, key));
    }

    void put(int t, int key, int number) {
        same("put(" + t + ", " + key + ", " + number + ")", () -> store.put(t, key, number),
                () -> model.put(t, key, number));
    }

    void remove(int t, int key) {
        same("remove(" + t + ", " + key + ")", () -> {
            store.remove(t, key);
            return "done";
        }, () -> {
            model.remove(t, key);
            return "done";
        });
    }

    void next(int t, int key) {
        same("next(" + t + ", " + key + ")", () -> store.next(t, key), () -> model.next(t, key));
    }

    void drop(int t) {
        same("drop(" + t + ")", () -> store.drop(t), () -> model.drop(t));
    }

    void commit(int t) {
        same("commit(" + t + ")", () -> store.commit(t), () -> model.commit(t));
    }

    void checkpoint() {
        same("checkpoint()", () -> store.checkpoint(), () -> model.checkpoint());
    }

    void number(int key) {
        same("number(" + key + ")", () -> store.number(key), () -> model.number(key));
    }

    void count() {
        same("count()", () -> store.count(), () -> model.count());
    }

    void version() {
        same("version()", () -> store.version(), () -> model.version());
    }

    void left() {
        same("left()", () -> store.left(), () -> model.left());
    }

    void arm(int n, int w) {
        same("arm(" + n + ", " + w + ")", () -> {
            store.arm(n, w);
            return "done";
        }, () -> {
            model.arm(n, w);
            return "done";
        });
    }

    void isDown() {
        same("isDown()", () -> store.isDown(), () -> model.isDown());
    }

    void recover() {
        same("recover()", () -> store.recover(), () -> model.recover());
    }

    void word(int block, int i) {
        same("word(" + block + ", " + i + ")", () -> store.word(block, i), () -> model.word(block, i));
    }

    private void same(String call, Call got, Call want) {
        Object due = answerOf(want);
        Object answer = answerOf(got);
        String method = call.substring(0, call.indexOf('('));
        seen.merge(due instanceof String ? method + " " + due : method, 1, Integer::sum);
        calls++;
        text.append(' ').append(call);
        right = right && answer.equals(due);
        Check.due(name + ":" + (answer.equals(due) ? "" : text), answer, due);
    }

    private static Object answerOf(Call call) {
        try {
            return call.answer();
        } catch (RuntimeException e) {
            return e.getClass().getSimpleName();
        }
    }
}
