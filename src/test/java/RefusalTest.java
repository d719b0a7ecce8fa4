import java.util.ArrayList;
import java.util.List;

/**
 * What each promise refuses: the last argument that is allowed and the first that is not, on both
 * sides; which exception comes first; and that a call that throws changes nothing.
 */
public final class RefusalTest {
    private static final int[] NO_TRANSACTION = {-1, 3, Integer.MIN_VALUE, Integer.MAX_VALUE};
    private static final int[] NO_KEY = {-1, 64, Integer.MIN_VALUE, Integer.MAX_VALUE};
    private static final int CLOSED = 1;

    private interface Use {
        void with(LoggedStore x, int t, int key);
    }

    private interface Call {
        void on(LoggedStore x);
    }

    // The calls that take an open transaction; all are allowed where it sees a number of the key.
    private static final Use[] BY_TRANSACTION = {
        (x, t, key) -> x.get(t, key),
        (x, t, key) -> x.put(t, key, 1),
        (x, t, key) -> x.remove(t, key),
        (x, t, key) -> x.next(t, key),
        (x, t, key) -> x.drop(t),
        (x, t, key) -> x.commit(t)};

    private static final Use[] BY_KEY = {
        BY_TRANSACTION[0], BY_TRANSACTION[1], BY_TRANSACTION[2], BY_TRANSACTION[3]};

    public static void main(String[] args) {
        for (int i = 0; i < BY_TRANSACTION.length; i++) {
            noSuchTransaction("call " + i, BY_TRANSACTION[i]);
        }
        for (int i = 0; i < BY_KEY.length; i++) {
            noSuchKey("call " + i, BY_KEY[i]);
            argumentsComeBeforeNone("call " + i, BY_KEY[i]);
        }
        beginOfAnOpenOne();
        numberOfNoKey();
        nextWhenThereIsNone();
        commitLooksForAConflictBeforeItCounts();
        commitOfTooManyAndTooLong();
        leftWhenNoneIsLeft();
        wordsThatAreNone();
        whatThrowsChangesNothing();
        Check.end();
    }

    private static LoggedStore twoKeys() {
        LoggedStore x = new LoggedStore();
        Check.commitPairs(x, 0, 10, 63, 73);
        return x;
    }

    private static LoggedStore twoKeysAndOpen(int... transactions) {
        LoggedStore x = twoKeys();
        for (int t : transactions) {
            x.begin(t);
        }
        return x;
    }

    private static void noSuchTransaction(String what, Use use) {
        for (int t = 0; t <= 2; t++) {
            LoggedStore x = twoKeysAndOpen(t);
            int it = t;
            Check.thrown(what + " with " + t, null, () -> use.with(x, it, 0));
            LoggedStore y = twoKeysAndOpen((t + 1) % 3, (t + 2) % 3);
            Check.thrown(what + " with " + t + " not open", Check.ARGUMENT, () -> use.with(y, it, 0));
        }
        LoggedStore x = twoKeysAndOpen(0, 1, 2);
        for (int t : NO_TRANSACTION) {
            Check.thrown(what + " with " + t, Check.ARGUMENT, () -> use.with(x, t, 0));
            Check.thrown("begin(" + t + ")", Check.ARGUMENT, () -> x.begin(t));
        }
    }

    private static void noSuchKey(String what, Use use) {
        LoggedStore x = twoKeysAndOpen(0);
        Check.thrown(what + " with key 0", null, () -> use.with(x, 0, 0));
        Check.thrown(what + " with key 63", null, () -> use.with(x, 0, 63));
        for (int key : NO_KEY) {
            Check.thrown(what + " with key " + key, Check.ARGUMENT, () -> use.with(x, 0, key));
        }
    }

    private static void argumentsComeBeforeNone(String what, Use use) {
        LoggedStore x = twoKeysAndOpen(0);
        for (int key : NO_KEY) {
            Check.thrown(what + ": no transaction and no key", Check.ARGUMENT,
                    () -> use.with(x, 3, key));
            Check.thrown(what + ": not open and no key", Check.ARGUMENT,
                    () -> use.with(x, CLOSED, key));
        }
        Check.thrown(what + ": not open, and no number", Check.ARGUMENT,
                () -> use.with(x, CLOSED, 5));
        Check.thrown(what + ": no transaction, and no number", Check.ARGUMENT,
                () -> use.with(x, -1, 5));
    }

    private static void beginOfAnOpenOne() {
        LoggedStore x = twoKeysAndOpen(0, 1, 2);
        for (int t = 0; t <= 2; t++) {
            int it = t;
            Check.thrown("begin(" + t + ")", Check.UNSUPPORTED, () -> x.begin(it));
        }
        x.drop(0);
        x.commit(2);
        Check.due("begin(0) after drop(0)", x.begin(0), 1);
        Check.due("begin(2) after commit(2)", x.begin(2), 1);
        Check.thrown("begin(1), open still", Check.UNSUPPORTED, () -> x.begin(1));
    }

    private static void numberOfNoKey() {
        LoggedStore x = twoKeys();
        Check.due("number(0)", x.number(0), 10);
        Check.due("number(63)", x.number(63), 73);
        for (int key : NO_KEY) {
            Check.thrown("number(" + key + ")", Check.ARGUMENT, () -> x.number(key));
        }
        Check.thrown("number(1)", Check.NONE, () -> x.number(1));
        Check.thrown("number(62)", Check.NONE, () -> x.number(62));
    }

    private static void nextWhenThereIsNone() {
        LoggedStore x = new LoggedStore();
        x.begin(0);
        Check.due("next(0, 0) of nothing", x.next(0, 0), -1);
        Check.due("next(0, 63) of nothing", x.next(0, 63), -1);
        x.put(0, 62, 0);
        Check.due("next(0, 0)", x.next(0, 0), 62);
        Check.due("next(0, 62), the key itself", x.next(0, 62), 62);
        Check.due("next(0, 63), behind the last", x.next(0, 63), -1);
        x.put(0, 63, 0);
        Check.due("next(0, 63), the last key", x.next(0, 63), 63);
        x.remove(0, 62);
        x.remove(0, 63);
        Check.due("next(0, 0), all removed", x.next(0, 0), -1);
    }

    private static void commitLooksForAConflictBeforeItCounts() {
        LoggedStore x = new LoggedStore();
        x.begin(1);
        x.begin(2);
        x.put(1, 0, 1);
        x.put(1, 40, 1);
        x.put(2, 40, 1);
        Check.commitRange(x, 0, 20);
        Check.thrown("a conflict and 21 keys", Check.UNSUPPORTED, () -> x.commit(1));
        Check.thrown("21 keys alone", Check.ARITHMETIC, () -> x.commit(2));
        fillLog(x);
        Check.thrown("a conflict and no block", Check.UNSUPPORTED, () -> x.commit(1));
        Check.thrown("a commit of none, though no block is left", Check.ARGUMENT, () -> x.commit(0));
        Check.due("both stay open", x.drop(1) + x.drop(2), 3);
    }

    /** Commits one key in transaction 0 until less than two blocks are left. */
    private static void fillLog(LoggedStore x) {
        for (int i = 0; i < 37 && x.left() > 1; i++) {
            Check.commitPairs(x, 0, i);
        }
    }

    private static void commitOfTooManyAndTooLong() {
        LoggedStore x = new LoggedStore();
        Check.commitRange(x, 0, 20);
        fillLog(x);
        Check.due("left()", x.left(), 1);
        x.begin(1);
        x.put(1, 63, 1);
        Check.thrown("21 keys, and too few blocks", Check.ARITHMETIC, () -> x.commit(1));
        Check.due("it stays open", x.get(1, 63), 1);
        x.remove(1, 63);
        Check.thrown("too few blocks alone", Check.ARITHMETIC, () -> x.commit(1));
        Check.thrown("it stays open", Check.NONE, () -> x.get(1, 63));
        x.checkpoint();
        int version = x.version();
        Check.due("blocks enough in the next epoch", x.commit(1), version + 1);
    }

    private static void leftWhenNoneIsLeft() {
        LoggedStore x = new LoggedStore();
        Check.due("left() of all", x.left(), 74);
        fillLog(x);
        Check.due("left() of none", x.left(), 0);
        x.begin(1);
        int version = x.version();
        Check.due("a commit without writes needs none", x.commit(1), version);
        Check.due("left() then", x.left(), 0);
        x.checkpoint();
        Check.due("left() after a checkpoint", x.left(), 74);
    }

    private static void wordsThatAreNone() {
        LoggedStore x = new LoggedStore();
        fillLog(x);
        x.checkpoint();
        Check.due("word(0, 0)", x.word(0, 0), 1);
        Check.due("word(95, 3)", x.word(95, 3), Check.checkWord(95, 7, 1, 37));
        // Each would be another word that is not 0 if blocks and words were counted through.
        int[][] none = {{-1, 0}, {-1, 3}, {-1, 4}, {0, -1}, {0, 4}, {0, 7}, {1, -1}, {1, -4}, {22, 4},
            {23, -1}, {95, 4}, {95, -1}, {96, 0}, {96, -1}, {96, -4}, {96, 3},
            {Integer.MIN_VALUE, 0}, {Integer.MAX_VALUE, 0}, {0, Integer.MIN_VALUE},
            {0, Integer.MAX_VALUE}, {1 << 30, 0}};
        for (int[] one : none) {
            Check.due("word(" + one[0] + ", " + one[1] + ")", x.word(one[0], one[1]), 0);
        }
    }

    /**
     * Transaction 0 has two writes that may be committed, 1 a conflict, 2 too many keys; 19 keys
     * have a number, and the power will be lost in the third write.
     */
    private static LoggedStore threeOpen() {
        LoggedStore x = new LoggedStore();
        Check.commitRange(x, 0, 19);
        x.begin(1);
        x.put(1, 5, 50);
        x.put(1, 40, 1);
        Check.commitPairs(x, 5, 55);
        x.begin(0);
        x.put(0, 6, 60);
        x.remove(0, 7);
        x.begin(2);
        x.put(2, 50, 1);
        x.put(2, 51, 1);
        x.arm(2, 1);
        return x;
    }

    /** The log has one block left; transaction 0 has one write, the others are not open. */
    private static LoggedStore fullLog() {
        LoggedStore x = new LoggedStore();
        for (int i = 0; i < 3; i++) {
            Check.commitRange(x, 0, 20);
        }
        fillLog(x);
        x.begin(0);
        x.put(0, 6, 60);
        return x;
    }

    private interface Made {
        LoggedStore made();
    }

    private static void whatThrowsChangesNothing() {
        Call[] refused = {
            x -> x.begin(3), x -> x.begin(0),
            x -> x.get(0, 64), x -> x.get(0, 7), x -> x.get(-1, 5),
            x -> x.put(0, 64, 1), x -> x.put(3, 5, 1),
            x -> x.remove(0, 64), x -> x.remove(0, 7),
            x -> x.remove(0, 60), x -> x.remove(3, 5),
            x -> x.next(0, 64), x -> x.next(-1, 0),
            x -> x.drop(3), x -> x.drop(-1),
            x -> x.commit(1), x -> x.commit(2), x -> x.commit(3),
            x -> x.number(64), x -> x.number(60)};
        for (int i = 0; i < refused.length; i++) {
            changesNothing("three open, call " + i, RefusalTest::threeOpen, refused[i]);
        }
        Call[] alsoRefused = {
            x -> x.commit(0), x -> x.commit(1), x -> x.drop(1),
            x -> x.put(1, 5, 1), x -> x.remove(2, 5),
            x -> x.next(2, 0), x -> x.get(1, 5)};
        for (int i = 0; i < alsoRefused.length; i++) {
            changesNothing("full log, call " + i, RefusalTest::fullLog, alsoRefused[i]);
        }
    }

    /** Looks at one object where the call was made, and at one where it was not, in three ways. */
    private static void changesNothing(String what, Made state, Call refused) {
        for (int way = 0; way < 3; way++) {
            LoggedStore with = state.made();
            LoggedStore without = state.made();
            Class<?> thrown = Check.exceptionOf(() -> refused.on(with));
            Check.due(what + " throws", thrown != null && thrown != Check.STATE, true);
            Check.due(what + ", way " + way, seen(with, way), seen(without, way));
        }
    }

    private static List<String> seen(LoggedStore x, int way) {
        List<String> seen = new ArrayList<>();
        if (way == 0) {
            for (int i = 0; i < 96 * 4; i++) {
                seen.add("" + x.word(i / 4, i % 4));
            }
        } else if (way == 1) {
            lookAtAll(x, seen);
        } else {
            goOn(x, seen);
        }
        return seen;
    }

    private static void lookAtAll(LoggedStore x, List<String> seen) {
        seen.add(x.version() + " " + x.count() + " " + x.left() + " " + x.isDown());
        for (int k = 0; k < 64; k++) {
            int key = k;
            add(seen, () -> x.number(key));
            for (int t = 0; t < 3; t++) {
                int it = t;
                add(seen, () -> x.get(it, key));
            }
        }
        for (int t = 0; t < 3; t++) {
            int it = t;
            add(seen, () -> x.drop(it));
        }
    }

    /** Commits, the conflicts that remain, and the write in which the power is lost. */
    private static void goOn(LoggedStore x, List<String> seen) {
        for (int t = 2; t >= 0; t--) {
            int it = t;
            add(seen, () -> x.commit(it));
            add(seen, () -> x.left());
        }
        add(seen, () -> x.checkpoint());
        seen.add("" + x.isDown());
        for (int i = 22; i < 64; i++) {
            seen.add(x.word(i, 0) + " " + x.word(i, 1) + " " + x.word(i, 2) + " " + x.word(i, 3));
        }
        add(seen, () -> x.recover());
        add(seen, () -> x.count());
    }

    private interface Answer {
        int answer();
    }

    private static void add(List<String> seen, Answer call) {
        try {
            seen.add("" + call.answer());
        } catch (RuntimeException e) {
            seen.add(e.getClass().getSimpleName());
        }
    }
}
