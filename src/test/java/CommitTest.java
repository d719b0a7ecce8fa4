/** Promises 8 and 10 to 13: commit, number, count, version and left. */
public final class CommitTest {
    public static void main(String[] args) {
        commitDoes();
        commitLogs();
        commitOfNothing();
        conflicts();
        conflictAcrossCheckpoint();
        tooManyNumbers();
        fullLog();
        conflictComesFirst();
        wrongArguments();
        Check.end();
    }

    private static void commitDoes() {
        LoggedStore x = new LoggedStore();
        Check.due("first commit", Check.commitPairs(x, 63, 5, 0, -1, 7, 0), 1);
        Check.due("count()", x.count(), 3);
        Check.due("version()", x.version(), 1);
        Check.due("number(63)", x.number(63), 5);
        Check.due("number(0)", x.number(0), -1);
        Check.due("number(7)", x.number(7), 0);
        Check.thrown("number(8)", Check.NONE, () -> x.number(8));
        Check.thrown("it is closed", Check.ARGUMENT, () -> x.get(0, 63));
        x.begin(0);
        x.remove(0, 63);
        x.put(0, 7, 8);
        Check.due("second commit", x.commit(0), 2);
        Check.due("count() then", x.count(), 2);
        Check.thrown("number(63) then", Check.NONE, () -> x.number(63));
        Check.due("number(7) then", x.number(7), 8);
        Check.due("a commit of what is so already", Check.commitPairs(x, 7, 8), 3);
        Check.due("version() then", x.version(), 3);
    }

    private static void commitLogs() {
        LoggedStore x = new LoggedStore();
        Check.commitPairs(x, 40, -7, 3, 30);
        Check.checkedBlock(x, "rising keys", 22, 5, 3, 30);
        Check.checkedBlock(x, "rising keys", 23, 5, 40, -7);
        Check.checkedBlock(x, "the commit's end", 24, 7, 2, 1);
        Check.block(x, "nothing behind it", 25, 0, 0, 0, 0);
        Check.due("left()", x.left(), 71);
        x.begin(2);
        x.remove(2, 40);
        x.put(2, 50, 1);
        x.remove(2, 50);
        x.put(2, 3, 30);
        x.commit(2);
        Check.checkedBlock(x, "a number that is so already", 25, 5, 3, 30);
        Check.checkedBlock(x, "a removal", 26, 6, 40, 0);
        Check.checkedBlock(x, "a removal of none", 27, 6, 50, 0);
        Check.checkedBlock(x, "the second end", 28, 7, 3, 2);
        Check.due("left() then", x.left(), 67);
    }

    private static void commitOfNothing() {
        LoggedStore x = new LoggedStore();
        x.begin(1);
        Check.commitPairs(x, 1, 1);
        x.arm(0, 0);
        Check.due("commit without writes answers the latest version", x.commit(1), 1);
        Check.due("it logs nothing", x.left(), 72);
        Check.thrown("it is closed", Check.ARGUMENT, () -> x.commit(1));
        Check.due("it made no write", x.isDown(), false);
    }

    private static void conflicts() {
        LoggedStore x = new LoggedStore();
        Check.commitPairs(x, 1, 1, 2, 2);
        x.begin(1);
        x.begin(2);
        Check.due("commit at the version where it began", Check.commitPairs(x, 1, 1), 2);
        x.put(1, 1, 5);
        x.put(1, 9, 9);
        Check.thrown("conflict", Check.UNSUPPORTED, () -> x.commit(1));
        Check.due("it stays open", x.get(1, 9), 9);
        Check.due("nothing was logged", x.left(), 69);
        Check.due("nothing was done", x.number(1), 1);
        Check.thrown("conflict again", Check.UNSUPPORTED, () -> x.commit(1));
        Check.due("its writes are kept", x.drop(1), 2);
        x.put(2, 2, 22);
        Check.due("reading what was written since is none", x.get(2, 1), 1);
        Check.due("other keys commit", x.commit(2), 3);
        x.begin(1);
        x.begin(2);
        x.remove(1, 2);
        x.remove(2, 2);
        Check.due("the first removal commits", x.commit(1), 4);
        Check.thrown("removals conflict too", Check.UNSUPPORTED, () -> x.commit(2));
        x.drop(2);
        x.begin(2);
        x.put(2, 2, 3);
        Check.due("one that began later commits", x.commit(2), 5);
    }

    private static void conflictAcrossCheckpoint() {
        LoggedStore x = new LoggedStore();
        x.begin(1);
        x.put(1, 6, 6);
        Check.commitPairs(x, 6, 7);
        x.checkpoint();
        Check.commitPairs(x, 8, 8);
        Check.thrown("conflict with a commit before the checkpoint", Check.UNSUPPORTED,
                () -> x.commit(1));
        x.drop(1);
        x.begin(1);
        x.put(1, 6, 6);
        x.checkpoint();
        Check.due("a checkpoint makes no conflict", x.commit(1), 3);
    }

    private static void tooManyNumbers() {
        LoggedStore x = new LoggedStore();
        x.begin(1);
        x.put(1, 60, 1);
        Check.due("20 keys", Check.commitRange(x, 0, 20), 1);
        Check.due("count()", x.count(), 20);
        Check.thrown("a 21st key, though 1 when it began", Check.ARITHMETIC, () -> x.commit(1));
        Check.due("it stays open", x.get(1, 60), 1);
        Check.due("nothing was logged", x.left(), 53);
        Check.due("nothing was done", x.version(), 1);
        x.begin(2);
        x.remove(2, 4);
        Check.due("one less", x.commit(2), 2);
        Check.due("room for it now", x.commit(1), 3);
        x.begin(0);
        x.put(0, 61, 1);
        x.remove(0, 5);
        x.put(0, 6, 66);
        x.put(0, 62, 1);
        x.remove(0, 62);
        Check.due("one for another", x.commit(0), 4);
        Check.due("count() then", x.count(), 20);
    }

    private static void fullLog() {
        LoggedStore x = new LoggedStore();
        for (int i = 0; i < 3; i++) {
            Check.commitRange(x, 0, 20);
        }
        Check.due("left() after 63 blocks", x.left(), 11);
        x.begin(1);
        for (int key = 0; key < 11; key++) {
            x.put(1, key, -key);
        }
        Check.thrown("12 blocks are not left", Check.ARITHMETIC, () -> x.commit(1));
        Check.due("nothing was written", x.word(85, 0), 0);
        Check.due("it stays open", x.drop(1), 11);
        x.begin(1);
        for (int key = 0; key < 10; key++) {
            x.put(1, key, -key);
        }
        Check.due("11 blocks are left", x.commit(1), 4);
        Check.checkedBlock(x, "the last block", 95, 7, 10, 4);
        Check.due("left() of a full log", x.left(), 0);
        x.begin(0);
        Check.due("commit without writes needs no block", x.commit(0), 4);
        x.begin(0);
        x.put(0, 1, 1);
        Check.thrown("no block is left", Check.ARITHMETIC, () -> x.commit(0));
        Check.due("recover() of a full log", x.recover(), 4);
        Check.due("left() after it", x.left(), 0);
        x.begin(0);
        x.put(0, 1, 1);
        x.checkpoint();
        Check.due("left() in the new epoch", x.left(), 74);
        Check.due("commit in the new epoch", x.commit(0), 5);
        Check.checkedBlock(x, "a block of the new epoch", 22, 9, 1, 1);
        Check.checkedBlock(x, "its end", 23, 11, 1, 5);
    }

    private static void conflictComesFirst() {
        LoggedStore x = new LoggedStore();
        x.begin(1);
        x.put(1, 0, 1);
        x.put(1, 63, 1);
        Check.commitRange(x, 0, 20);
        Check.thrown("conflict and too many keys", Check.UNSUPPORTED, () -> x.commit(1));
    }

    private static void wrongArguments() {
        LoggedStore x = new LoggedStore();
        x.begin(0);
        int[] none = {-1, 3, Integer.MIN_VALUE, Integer.MAX_VALUE, 1, 2};
        for (int t : none) {
            Check.thrown("commit(" + t + ")", Check.ARGUMENT, () -> x.commit(t));
        }
        int[] noKey = {-1, 64, Integer.MIN_VALUE, Integer.MAX_VALUE};
        for (int key : noKey) {
            Check.thrown("number(" + key + ")", Check.ARGUMENT, () -> x.number(key));
        }
    }
}
