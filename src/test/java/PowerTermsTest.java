import java.util.ArrayList;
import java.util.List;

/** 'Terms', POWER, and promises 14 to 16: a test for each sentence that names a boundary. */
public final class PowerTermsTest {
    private static final int[] WRITTEN = {22, 23, 24, 12, 13, 14, 1};

    public static void main(String[] args) {
        lostAfterEachWordOfEachKindOfWrite();
        whatComesBackAfterEachOfThem();
        asManyWritesAsArmedAreDone();
        onlyWritesCount();
        nBelow0IsAnyNumber();
        wBelow0And3AndAbove();
        theLastArmCounts();
        downWhateverTheWrite();
        wrongArgumentsWhileDown();
        whatThrowsWhileDownChangesNothing();
        whatDoesNotThrowWhileDown();
        armWhileDownIsForgotten();
        memoryDoesNotCountAnyMore();
        recoverMakesNoWrites();
        recoverWhenItIsNotDown();
        Check.end();
    }

    /** Two epochs have left words in both headers, both areas and the log. */
    private static LoggedStore used() {
        LoggedStore x = new LoggedStore();
        Check.commitPairs(x, 1, 11, 3, 13, 5, 15, 7, 17, 9, 19, 11, 21);
        x.checkpoint();
        Check.commitPairs(x, 1, 31, 2, 32, 3, 33);
        x.checkpoint();
        x.begin(0);
        x.remove(0, 11);
        x.commit(0);
        x.checkpoint();
        x.checkpoint();
        return x;
    }

    /** Seven writes: of kinds 1, 2 and 3, three of an area, the last with zeros, and a header. */
    private static void sevenWrites(LoggedStore x) {
        x.begin(0);
        x.put(0, 5, -5);
        x.remove(0, 7);
        x.commit(0);
        x.checkpoint();
    }

    private static int[] diskOf(LoggedStore x) {
        int[] disk = new int[96 * 4];
        for (int i = 0; i < disk.length; i++) {
            disk[i] = x.word(i / 4, i % 4);
        }
        return disk;
    }

    private static void lostAfterEachWordOfEachKindOfWrite() {
        int[] before = diskOf(used());
        LoggedStore whole = used();
        sevenWrites(whole);
        int[] after = diskOf(whole);
        for (int n = 0; n < WRITTEN.length; n++) {
            for (int w = 0; w < 4; w++) {
                LoggedStore x = used();
                x.arm(n, w);
                Check.thrown("lost", Check.STATE, () -> sevenWrites(x));
                int[] due = before.clone();
                for (int i = 0; i < n; i++) {
                    System.arraycopy(after, 4 * WRITTEN[i], due, 4 * WRITTEN[i], 4);
                }
                System.arraycopy(after, 4 * WRITTEN[n], due, 4 * WRITTEN[n], w);
                sameDisk("write " + n + " lost after " + w, diskOf(x), due);
            }
        }
    }

    private static void sameDisk(String what, int[] got, int[] due) {
        for (int i = 0; i < due.length; i++) {
            Check.due(what + ": word(" + i / 4 + ", " + i % 4 + ")", got[i], due[i]);
        }
    }

    private static void whatComesBackAfterEachOfThem() {
        for (int n = 0; n < WRITTEN.length; n++) {
            for (int w = 0; w < 4; w++) {
                LoggedStore x = used();
                x.arm(n, w);
                Check.thrown("lost", Check.STATE, () -> sevenWrites(x));
                String what = "write " + n + " lost after " + w;
                boolean committed = n > 2;
                Check.due(what + ": recover()", x.recover(), committed ? 4 : 3);
                Check.due(what + ": number(5)", x.number(5), committed ? -5 : 15);
                Check.due(what + ": count()", x.count(), committed ? 5 : 6);
                Check.due(what + ": left()", x.left(), committed ? 71 : 74);
                sevenWritesAgain(x, what, committed);
            }
        }
    }

    private static void sevenWritesAgain(LoggedStore x, String what, boolean committed) {
        if (committed) {
            Check.due(what + ": checkpoint()", x.checkpoint(), 6);
        } else {
            sevenWrites(x);
        }
        LoggedStore whole = used();
        sevenWrites(whole);
        int[] due = diskOf(whole);
        for (int block : WRITTEN) {
            Check.block(x, what + ", then done", block, due[4 * block], due[4 * block + 1],
                    due[4 * block + 2], due[4 * block + 3]);
        }
    }

    private static void asManyWritesAsArmedAreDone() {
        for (int n = 0; n <= 7; n++) {
            LoggedStore x = used();
            x.arm(n, 0);
            Class<?> thrown = Check.exceptionOf(() -> sevenWrites(x));
            Check.due("armed " + n + ": isDown()", x.isDown(), n < 7);
            Check.due("armed " + n + ": lost", thrown == Check.STATE, n < 7);
        }
        LoggedStore x = used();
        x.arm(7, 1);
        sevenWrites(x);
        Check.thrown("the eighth write", Check.STATE, () -> Check.commitPairs(x, 1, 1));
        Check.due("one word of it", x.word(22, 0), 4 * 6 + 1);
        Check.due("not the second", x.word(22, 1), 5);
    }

    private static void onlyWritesCount() {
        LoggedStore x = new LoggedStore();
        Check.commitRange(x, 0, 20);
        x.begin(1);
        x.put(1, 0, 0);
        Check.commitPairs(x, 0, 1);
        x.arm(0, 0);
        x.begin(0);
        x.begin(2);
        x.put(0, 40, 1);
        x.get(0, 0);
        x.next(0, 0);
        Check.thrown("too many keys: no write is tried", Check.ARITHMETIC, () -> x.commit(0));
        Check.thrown("a conflict: no write is tried", Check.UNSUPPORTED, () -> x.commit(1));
        Check.due("without writes: no write", x.commit(2), 2);
        x.drop(0);
        x.drop(1);
        Check.due("isDown()", x.isDown(), false);
        Check.thrown("the first write", Check.STATE, () -> x.checkpoint());
    }

    private static void nBelow0IsAnyNumber() {
        int[] below = {-1, -2, Integer.MIN_VALUE};
        for (int n : below) {
            LoggedStore x = new LoggedStore();
            x.arm(n, 0);
            for (int i = 0; i < 100; i++) {
                Check.commitPairs(x, 1, i);
                x.checkpoint();
            }
            Check.due("after 400 writes, armed " + n, x.isDown(), false);
        }
        LoggedStore x = new LoggedStore();
        x.arm(0, 0);
        Check.thrown("0 is not below 0", Check.STATE, () -> x.checkpoint());
        LoggedStore y = new LoggedStore();
        y.arm(Integer.MAX_VALUE, 0);
        Check.due("the greatest n", y.checkpoint(), 2);
    }

    private static void wBelow0And3AndAbove() {
        int[][] asked = {{Integer.MIN_VALUE, 0}, {-2, 0}, {-1, 0}, {0, 0}, {1, 1}, {2, 2}, {3, 3},
            {4, 3}, {5, 3}, {Integer.MAX_VALUE, 3}};
        for (int[] one : asked) {
            LoggedStore x = new LoggedStore();
            x.arm(0, one[0]);
            Check.thrown("lost", Check.STATE, () -> Check.commitPairs(x, 9, 99));
            int words = 0;
            for (int i = 0; i < 4; i++) {
                words += x.word(22, i) == 0 ? 0 : 1;
            }
            Check.due("words with w " + one[0], words, one[1]);
            Check.due("isDown() with w " + one[0], x.isDown(), true);
        }
    }

    private static void theLastArmCounts() {
        LoggedStore x = new LoggedStore();
        x.arm(0, 0);
        x.arm(2, 3);
        x.arm(1, 2);
        Check.thrown("lost in the second write", Check.STATE, () -> Check.commitPairs(x, 9, 99));
        Check.checkedBlock(x, "the first write", 22, 5, 9, 99);
        Check.block(x, "two words of the second", 23, 7, 1, 0, 0);
        LoggedStore y = new LoggedStore();
        y.arm(0, 0);
        y.arm(-1, 0);
        Check.due("armed no more", Check.commitPairs(y, 1, 1), 1);
    }

    private static LoggedStore downAfter(int n, int w) {
        LoggedStore x = used();
        x.begin(1);
        x.put(1, 1, 1);
        x.arm(n, w);
        Check.thrown("lost", Check.STATE, () -> sevenWrites(x));
        return x;
    }

    private static void downWhateverTheWrite() {
        for (int n = 0; n < 7; n++) {
            for (int w = 0; w < 4; w++) {
                throwAll(downAfter(n, w), 1, 1);
            }
        }
    }

    private static void wrongArgumentsWhileDown() {
        int[] wrong = {-1, 3, 64, Integer.MIN_VALUE, Integer.MAX_VALUE};
        for (int one : wrong) {
            throwAll(downAfter(0, 0), one, one);
        }
        throwAll(downAfter(0, 0), 0, 64);
        throwAll(downAfter(0, 0), 2, 60);
    }

    /** The next write would be done: it is the store's being down that keeps them from it. */
    private static void whatThrowsWhileDownChangesNothing() {
        for (int n = 0; n < 7; n++) {
            int[] before = diskOf(downAfter(n, 1));
            LoggedStore x = downAfter(n, 1);
            x.arm(-1, 0);
            throwAll(x, 0, 5);
            throwAll(x, 1, 1);
            sameDisk("down in write " + n, diskOf(x), before);
            Check.due("recover()", x.recover(), n > 2 ? 4 : 3);
        }
    }

    /** Every call that must throw while the store is down. */
    private static void throwAll(LoggedStore x, int t, int key) {
        List<Runnable> calls = new ArrayList<>();
        calls.add(() -> x.begin(t));
        calls.add(() -> x.get(t, key));
        calls.add(() -> x.put(t, key, 1));
        calls.add(() -> x.remove(t, key));
        calls.add(() -> x.next(t, key));
        calls.add(() -> x.drop(t));
        calls.add(() -> x.commit(t));
        calls.add(() -> x.checkpoint());
        calls.add(() -> x.number(key));
        calls.add(() -> x.count());
        calls.add(() -> x.version());
        calls.add(() -> x.left());
        for (int i = 0; i < calls.size(); i++) {
            Check.thrown("down: call " + i + " with " + t + ", " + key, Check.STATE, calls.get(i));
        }
        Check.due("down still", x.isDown(), true);
    }

    private static void whatDoesNotThrowWhileDown() {
        LoggedStore x = downAfter(1, 2);
        Check.due("isDown()", x.isDown(), true);
        Check.due("word()", x.word(22, 2), -5);
        Check.due("word() of the lost write", x.word(23, 1), 7);
        Check.due("word() of no block", x.word(96, 0), 0);
        Check.due("word() of no word", x.word(0, 4), 0);
        x.arm(5, 1);
        x.arm(-1, -1);
        Check.due("arm() does not bring it up", x.isDown(), true);
        Check.due("recover()", x.recover(), 3);
        Check.due("isDown() then", x.isDown(), false);
        Check.due("count() then", x.count(), 6);
    }

    private static void armWhileDownIsForgotten() {
        LoggedStore x = downAfter(0, 0);
        x.arm(0, 3);
        x.recover();
        sevenWrites(x);
        Check.due("it is up", x.isDown(), false);
    }

    private static void memoryDoesNotCountAnyMore() {
        LoggedStore x = used();
        x.begin(1);
        x.put(1, 40, 40);
        x.begin(2);
        x.put(2, 41, 41);
        x.arm(1, 3);
        Check.thrown("lost", Check.STATE, () -> x.commit(1));
        Check.due("recover()", x.recover(), 3);
        for (int t = 0; t < 3; t++) {
            int it = t;
            Check.thrown("none is open", Check.ARGUMENT, () -> x.commit(it));
            Check.due("begin()", x.begin(t), 3);
            Check.due("drop() of no writes", x.drop(t), 0);
        }
        Check.thrown("number(40)", Check.NONE, () -> x.number(40));
        Check.due("no conflict with what was lost", Check.commitPairs(x, 40, 4), 4);
    }

    private static void recoverMakesNoWrites() {
        for (int n = 0; n < 7; n++) {
            int[] before = diskOf(downAfter(n, 2));
            LoggedStore x = downAfter(n, 2);
            x.arm(0, 3);
            x.recover();
            Check.due("isDown()", x.isDown(), false);
            sameDisk("recover() after write " + n, diskOf(x), before);
        }
    }

    private static void recoverWhenItIsNotDown() {
        LoggedStore x = used();
        x.begin(2);
        x.put(2, 30, 30);
        x.arm(0, 1);
        Check.due("recover()", x.recover(), 3);
        Check.due("isDown()", x.isDown(), false);
        Check.thrown("transaction 2 is closed", Check.ARGUMENT, () -> x.drop(2));
        Check.due("count()", x.count(), 6);
        Check.due("left()", x.left(), 74);
        sevenWrites(x);
        Check.due("it is not armed", x.isDown(), false);
        Check.due("recover() then", x.recover(), 4);
        Check.due("number(5)", x.number(5), -5);
    }
}
