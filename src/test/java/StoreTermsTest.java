/** 'Terms', keys and transactions: a test for each sentence that names a boundary. */
public final class StoreTermsTest {
    public static void main(String[] args) {
        keysAre0To63();
        zeroIsANumberToo();
        versionIs0AtFirstAndOneMoreWithEachCommit();
        versionsAreRememberedAsLongAsNeeded();
        from19KeysTo20();
        from20KeysTo21();
        at20KeysOneForAnother();
        the20KeysAreThoseOfTheLatestVersion();
        aTransactionMaySeeMoreThan20Keys();
        transactionsAre0To2();
        ownWritesAreSeenFirst();
        noConflictWithTheCommitAtWhichItBegan();
        conflictWithTheFirstCommitAfterIt();
        conflictWithACommitThatIsNotTheLast();
        conflictOnOneKeyOfMany();
        conflictOfPutsAndRemovals();
        conflictWithAWriteThatChangedNothing();
        noConflictWithoutACommonWrite();
        noConflictWithWhatWasNotCommitted();
        aConflictStaysUntilItIsDropped();
        aCommitWithoutWritesChangesNothing();
        aWriteOfWhatIsSoAlreadyIsLoggedAndDone();
        aRemovalOfAnOwnPutIsLoggedAndDone();
        Check.end();
    }

    private static void keysAre0To63() {
        LoggedStore x = new LoggedStore();
        Check.commitPairs(x, 0, 7, 63, 8);
        x.begin(1);
        Check.due("get(1, 0)", x.get(1, 0), 7);
        Check.due("get(1, 63)", x.get(1, 63), 8);
        Check.due("put(1, 0)", x.put(1, 0, 70), true);
        Check.due("put(1, 63)", x.put(1, 63, 80), true);
        Check.due("next(1, 0)", x.next(1, 0), 0);
        Check.due("next(1, 63)", x.next(1, 63), 63);
        x.remove(1, 0);
        x.remove(1, 63);
        Check.due("number(0)", x.number(0), 7);
        Check.due("number(63)", x.number(63), 8);
        Check.due("commit(1)", x.commit(1), 2);
        Check.thrown("number(0) then", Check.NONE, () -> x.number(0));
        Check.thrown("number(63) then", Check.NONE, () -> x.number(63));
        Check.due("count()", x.count(), 0);
    }

    private static void zeroIsANumberToo() {
        int[] numbers = {0, -1, 1, Integer.MIN_VALUE, Integer.MAX_VALUE};
        for (int number : numbers) {
            LoggedStore x = new LoggedStore();
            Check.commitPairs(x, 0, number);
            Check.due("number(0)", x.number(0), number);
            Check.due("count()", x.count(), 1);
            x.begin(1);
            Check.due("get(1, 0)", x.get(1, 0), number);
            Check.due("next(1, 0)", x.next(1, 0), 0);
            Check.due("put(1, 0, 5)", x.put(1, 0, 5), true);
            x.recover();
            Check.due("number(0) from the log", x.number(0), number);
            x.checkpoint();
            x.recover();
            Check.due("number(0) from the area", x.number(0), number);
            Check.due("count() from the area", x.count(), 1);
        }
    }

    private static void versionIs0AtFirstAndOneMoreWithEachCommit() {
        LoggedStore x = new LoggedStore();
        Check.due("version() at first", x.version(), 0);
        Check.due("begin(2) at first", x.begin(2), 0);
        for (int v = 1; v <= 37; v++) {
            Check.due("commit", Check.commitPairs(x, 5, 5), v);
            Check.due("version()", x.version(), v);
        }
        Check.due("begin(1)", x.begin(1), 37);
        x.checkpoint();
        Check.due("a checkpoint makes no version", x.version(), 37);
    }

    private static void versionsAreRememberedAsLongAsNeeded() {
        LoggedStore x = new LoggedStore();
        x.begin(0);
        commitOfTwo(x, 1, 10);
        x.begin(1);
        commitOfTwo(x, 2, 20);
        x.checkpoint();
        for (int i = 0; i < 20; i++) {
            commitOfTwo(x, 2, 100 + i);
        }
        x.begin(2);
        x.remove(2, 2);
        x.remove(2, 1);
        x.commit(2);
        Check.thrown("version 0 has no 1", Check.NONE, () -> x.get(0, 1));
        Check.due("version 0 has nothing", x.next(0, 0), -1);
        Check.due("version 1 has 1", x.get(1, 1), 10);
        Check.thrown("version 1 has no 2", Check.NONE, () -> x.get(1, 2));
        Check.due("version 1 has 50", x.get(1, 50), 10);
        Check.due("the latest has 50 alone", x.count(), 1);
        Check.due("begin(2)", x.begin(2), 23);
        Check.due("the latest version has 50 alone", x.next(2, 0), 50);
    }

    /** Commits a key and key 50, both with the same number, in transaction 2. */
    private static void commitOfTwo(LoggedStore x, int key, int number) {
        x.begin(2);
        x.put(2, key, number);
        x.put(2, 50, number);
        x.commit(2);
    }

    private static void from19KeysTo20() {
        LoggedStore x = new LoggedStore();
        Check.commitRange(x, 0, 19);
        Check.due("the 20th key", Check.commitPairs(x, 63, 1), 2);
        Check.due("count()", x.count(), 20);
        LoggedStore y = new LoggedStore();
        Check.commitRange(y, 0, 19);
        Check.thrown("the 20th and 21st", Check.ARITHMETIC, () -> Check.commitPairs(y, 62, 1, 63, 1));
        Check.due("count() as before", y.count(), 19);
    }

    private static void from20KeysTo21() {
        LoggedStore x = new LoggedStore();
        Check.due("20 keys at once", Check.commitRange(x, 0, 20), 1);
        Check.thrown("the 21st key", Check.ARITHMETIC, () -> Check.commitPairs(x, 20, 1));
        LoggedStore y = new LoggedStore();
        Check.thrown("21 keys at once", Check.ARITHMETIC, () -> Check.commitRange(y, 43, 21));
        y.remove(0, 63);
        Check.due("it is open still, and 20 will do", y.commit(0), 1);
        Check.due("count()", y.count(), 20);
    }

    private static void at20KeysOneForAnother() {
        LoggedStore x = new LoggedStore();
        Check.commitRange(x, 0, 20);
        Check.due("other numbers for the 20", Check.commitRange(x, 0, 20), 2);
        x.begin(0);
        x.put(0, 40, 1);
        x.remove(0, 3);
        Check.due("a key for another", x.commit(0), 3);
        x.begin(0);
        x.put(0, 41, 1);
        x.remove(0, 41);
        Check.due("a put that was taken back", x.commit(0), 4);
        x.begin(0);
        x.remove(0, 4);
        x.put(0, 4, 44);
        Check.due("a removal that was taken back", x.commit(0), 5);
        Check.due("count()", x.count(), 20);
        Check.due("number(4)", x.number(4), 44);
    }

    private static void the20KeysAreThoseOfTheLatestVersion() {
        LoggedStore x = new LoggedStore();
        x.begin(1);
        x.put(1, 63, 1);
        Check.commitRange(x, 0, 20);
        Check.thrown("few when it began, many now", Check.ARITHMETIC, () -> x.commit(1));
        x.begin(2);
        x.put(2, 62, 1);
        x.begin(0);
        x.remove(0, 0);
        x.remove(0, 1);
        x.commit(0);
        Check.due("many when it began, few now", x.commit(2), 3);
        Check.due("room for both", x.commit(1), 4);
        Check.due("count()", x.count(), 20);
    }

    private static void aTransactionMaySeeMoreThan20Keys() {
        LoggedStore x = new LoggedStore();
        x.begin(0);
        for (int key = 0; key < 64; key++) {
            Check.due("put(0, " + key + ")", x.put(0, key, -key), false);
        }
        for (int key = 0; key < 64; key++) {
            Check.due("get(0, " + key + ")", x.get(0, key), -key);
        }
        Check.thrown("commit of 64 keys", Check.ARITHMETIC, () -> x.commit(0));
        Check.due("64 writes", x.drop(0), 64);
    }

    private static void transactionsAre0To2() {
        LoggedStore x = new LoggedStore();
        for (int t = 0; t <= 2; t++) {
            Check.due("begin(" + t + ")", x.begin(t), 0);
            x.put(t, 10 + t, t);
        }
        for (int t = 0; t <= 2; t++) {
            Check.due("each has its own writes", x.next(t, 0), 10 + t);
        }
        for (int t = 2; t >= 0; t--) {
            Check.due("commit(" + t + ")", x.commit(t), 3 - t);
        }
        Check.due("count()", x.count(), 3);
    }

    private static void ownWritesAreSeenFirst() {
        LoggedStore x = new LoggedStore();
        Check.commitPairs(x, 1, 1, 2, 2, 3, 3);
        x.begin(1);
        x.put(1, 1, 10);
        x.remove(1, 2);
        Check.commitPairs(x, 1, 100, 2, 200, 3, 300);
        Check.due("an own number", x.get(1, 1), 10);
        Check.thrown("an own removal", Check.NONE, () -> x.get(1, 2));
        Check.due("the store when it began", x.get(1, 3), 3);
        Check.due("next passes the removal by", x.next(1, 2), 3);
        Check.due("drop(1)", x.drop(1), 2);
        x.begin(1);
        Check.due("the store when it began again", x.get(1, 1), 100);
    }

    private static void noConflictWithTheCommitAtWhichItBegan() {
        LoggedStore x = new LoggedStore();
        Check.commitPairs(x, 1, 1);
        Check.commitPairs(x, 2, 2);
        x.begin(1);
        x.put(1, 1, 11);
        x.put(1, 2, 22);
        Check.due("commit(1)", x.commit(1), 3);
    }

    private static void conflictWithTheFirstCommitAfterIt() {
        LoggedStore x = new LoggedStore();
        x.begin(1);
        x.put(1, 0, 1);
        Check.commitPairs(x, 0, 2);
        Check.thrown("commit(1)", Check.UNSUPPORTED, () -> x.commit(1));
        Check.due("the first one counts", x.number(0), 2);
    }

    private static void conflictWithACommitThatIsNotTheLast() {
        LoggedStore x = new LoggedStore();
        x.begin(1);
        Check.commitPairs(x, 63, 2);
        Check.commitPairs(x, 5, 5);
        Check.commitPairs(x, 6, 6);
        x.put(1, 63, 1);
        Check.thrown("commit(1)", Check.UNSUPPORTED, () -> x.commit(1));
    }

    private static void conflictOnOneKeyOfMany() {
        int[] common = {0, 31, 63};
        for (int key : common) {
            LoggedStore x = new LoggedStore();
            x.begin(1);
            x.put(1, 0, 1);
            x.put(1, 31, 1);
            x.put(1, 63, 1);
            Check.commitPairs(x, key, 2, 10, 2);
            Check.thrown("commit(1), both with " + key, Check.UNSUPPORTED, () -> x.commit(1));
        }
    }

    private static void conflictOfPutsAndRemovals() {
        for (int i = 0; i < 4; i++) {
            LoggedStore x = new LoggedStore();
            Check.commitPairs(x, 7, 7);
            x.begin(1);
            x.begin(2);
            write(x, 1, i % 2 == 0);
            write(x, 2, i / 2 == 0);
            Check.due("commit(2)", x.commit(2), 2);
            Check.thrown("commit(1)", Check.UNSUPPORTED, () -> x.commit(1));
        }
    }

    private static void write(LoggedStore x, int t, boolean aNumber) {
        if (aNumber) {
            x.put(t, 7, 70 + t);
        } else {
            x.remove(t, 7);
        }
    }

    private static void conflictWithAWriteThatChangedNothing() {
        LoggedStore x = new LoggedStore();
        Check.commitPairs(x, 7, 7);
        x.begin(1);
        x.begin(2);
        x.put(1, 7, 8);
        x.put(1, 9, 9);
        x.put(2, 9, 9);
        x.remove(2, 9);
        Check.commitPairs(x, 7, 7);
        Check.thrown("the number was so already", Check.UNSUPPORTED, () -> x.commit(1));
        x.drop(1);
        x.begin(1);
        x.put(1, 9, 9);
        Check.due("commit(2) writes that 9 has none", x.commit(2), 3);
        Check.thrown("there was none already", Check.UNSUPPORTED, () -> x.commit(1));
    }

    private static void noConflictWithoutACommonWrite() {
        LoggedStore x = new LoggedStore();
        Check.commitPairs(x, 1, 1, 2, 2);
        x.begin(1);
        x.begin(2);
        Check.due("it only looks at 1", x.get(1, 1), 1);
        x.put(1, 2, 20);
        Check.commitPairs(x, 1, 10, 3, 30);
        Check.due("commit(1)", x.commit(1), 3);
        Check.due("commit(2), which has no writes", x.commit(2), 3);
    }

    private static void noConflictWithWhatWasNotCommitted() {
        LoggedStore x = new LoggedStore();
        x.begin(0);
        x.begin(1);
        x.begin(2);
        x.put(0, 1, 1);
        x.put(1, 1, 2);
        x.put(2, 1, 3);
        x.drop(0);
        Check.due("a dropped one is none", x.commit(1), 1);
        Check.thrown("commit(2)", Check.UNSUPPORTED, () -> x.commit(2));
        x.begin(0);
        x.put(0, 1, 4);
        Check.due("a refused one is none", x.commit(0), 2);
    }

    private static void aConflictStaysUntilItIsDropped() {
        LoggedStore x = new LoggedStore();
        x.begin(1);
        x.put(1, 1, 1);
        Check.commitPairs(x, 1, 2);
        Check.thrown("commit(1)", Check.UNSUPPORTED, () -> x.commit(1));
        x.remove(1, 1);
        Check.thrown("the write is one still", Check.UNSUPPORTED, () -> x.commit(1));
        x.checkpoint();
        Check.thrown("a checkpoint is no help", Check.UNSUPPORTED, () -> x.commit(1));
        Check.due("drop(1)", x.drop(1), 1);
        x.begin(1);
        x.put(1, 1, 1);
        Check.due("commit(1) of a new one", x.commit(1), 2);
    }

    private static void aCommitWithoutWritesChangesNothing() {
        LoggedStore x = new LoggedStore();
        x.begin(0);
        Check.due("commit(0) of nothing at all", x.commit(0), 0);
        Check.thrown("it is not open any more", Check.ARGUMENT, () -> x.drop(0));
        x.begin(1);
        Check.commitPairs(x, 4, 4);
        x.arm(0, 3);
        Check.due("the version then, not the one when it began", x.commit(1), 1);
        Check.due("no write was made", x.isDown(), false);
        Check.due("version()", x.version(), 1);
        Check.due("left()", x.left(), 72);
        Check.block(x, "the log", 24, 0, 0, 0, 0);
    }

    private static void aWriteOfWhatIsSoAlreadyIsLoggedAndDone() {
        LoggedStore x = new LoggedStore();
        Check.commitPairs(x, 4, 40);
        Check.due("commit", Check.commitPairs(x, 4, 40), 2);
        Check.checkedBlock(x, "the write", 24, 5, 4, 40);
        Check.checkedBlock(x, "its end", 25, 7, 1, 2);
        Check.due("left()", x.left(), 70);
        Check.due("recover()", x.recover(), 2);
        Check.due("number(4)", x.number(4), 40);
    }

    private static void aRemovalOfAnOwnPutIsLoggedAndDone() {
        LoggedStore x = new LoggedStore();
        x.begin(0);
        x.put(0, 4, 40);
        x.remove(0, 4);
        Check.due("commit(0)", x.commit(0), 1);
        Check.checkedBlock(x, "that there is none", 22, 6, 4, 0);
        Check.checkedBlock(x, "its end", 23, 7, 1, 1);
        Check.due("count()", x.count(), 0);
        Check.due("recover()", x.recover(), 1);
        Check.due("count() then", x.count(), 0);
    }
}
