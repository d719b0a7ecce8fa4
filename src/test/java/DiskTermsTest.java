/** 'Terms', the disk: a test for each sentence that names a boundary. */
public final class DiskTermsTest {
    public static void main(String[] args) {
        theCheckWraps();
        theCheckOfEachKindOfLogBlock();
        theHeaderInTheBeginning();
        epochsAreInTheTwoHeadersByTurns();
        aCheckpointOfNoKey();
        aCheckpointOfOneKey();
        aCheckpointOfEachNumberOfKeys();
        zerosWhereNoneIsLeft();
        blocksWithoutKeysAreNotWritten();
        theAreaIsWrittenBeforeTheHeader();
        theLogFromItsFirstToItsLastBlock();
        aCommitThatJustFits();
        theGreatestCommit();
        theLogGoesOnBehindTheLastCommit();
        aCheckpointBeginsTheLogAnew();
        Check.end();
    }

    /** The due words are written out here, so that they do not come from the same formula. */
    private static void theCheckWraps() {
        int[][] due = {
            // key, number, check in block 22 of epoch 1; from 1291 and 2581 on, products wrap
            {0, 0, 1013709749}, {63, 0, 1013709706}, {0, 1290, 1134020151}, {0, 1291, -1132570566},
            {0, 2580, -1013743439}, {0, 2581, 1014635172}, {63, -1, -1014144391},
            {63, Integer.MAX_VALUE, 1133339257}, {63, Integer.MIN_VALUE, -1133773942}};
        for (int[] one : due) {
            LoggedStore x = new LoggedStore();
            Check.commitPairs(x, one[0], one[1]);
            Check.block(x, "the write", 22, 5, one[0], one[1], one[2]);
            Check.block(x, "the end", 23, 7, 1, 1, 1014012442);
            Check.due("it is good", x.recover(), 1);
            Check.due("number()", x.number(one[0]), one[1]);
        }
    }

    private static void theCheckOfEachKindOfLogBlock() {
        LoggedStore x = new LoggedStore();
        for (int v = 1; v <= 20; v++) {
            Check.commitPairs(x, v, -v);
            Check.checkedBlock(x, "the write", 20 + 2 * v, 5, v, -v);
            Check.checkedBlock(x, "its end", 21 + 2 * v, 7, 1, v);
        }
        x.checkpoint();
        x.begin(0);
        x.remove(0, 20);
        Check.due("a removal in epoch 2", x.commit(0), 21);
        Check.checkedBlock(x, "a removal's third word is 0", 22, 10, 20, 0);
        Check.checkedBlock(x, "its end", 23, 11, 1, 21);
    }

    private static void theHeaderInTheBeginning() {
        LoggedStore x = new LoggedStore();
        Check.block(x, "epoch 1", 0, 1, 0, 0, 1013969759);
        Check.block(x, "the other header", 1, 0, 0, 0, 0);
    }

    private static void epochsAreInTheTwoHeadersByTurns() {
        LoggedStore x = new LoggedStore();
        Check.due("checkpoint()", x.checkpoint(), 2);
        Check.block(x, "epoch 2, area 1", 1, 2, 64, 0, 1013773184);
        Check.checkedBlock(x, "epoch 1 stays", 0, 1, 0, 0);
        for (int epoch = 3; epoch <= 9; epoch++) {
            Check.due("checkpoint()", x.checkpoint(), epoch);
            int odd = epoch % 2;
            Check.checkedBlock(x, "this epoch", 1 - odd, epoch, 64 * (1 - odd), 0);
            Check.checkedBlock(x, "the one before", odd, epoch - 1, 64 * odd, 0);
        }
    }

    private static void aCheckpointOfNoKey() {
        LoggedStore x = new LoggedStore();
        x.arm(1, 0);
        Check.due("one write, the header", x.checkpoint(), 2);
        Check.due("recover()", x.recover(), 0);
        Check.due("count()", x.count(), 0);
        Check.commitPairs(x, 1, 1);
        x.begin(0);
        x.remove(0, 1);
        x.commit(0);
        x.arm(1, 0);
        Check.due("one write when the last key is gone", x.checkpoint(), 3);
        Check.checkedBlock(x, "header", 0, 3, 0, 2);
        Check.due("recover() then", x.recover(), 2);
        Check.due("count() then", x.count(), 0);
        Check.due("the next is in the other area", x.checkpoint(), 4);
        Check.checkedBlock(x, "its header", 1, 4, 64, 2);
    }

    private static void aCheckpointOfOneKey() {
        LoggedStore x = new LoggedStore();
        Check.commitPairs(x, 63, -9);
        x.arm(2, 0);
        Check.due("two writes", x.checkpoint(), 2);
        Check.block(x, "the area", 12, 63, -9, 0, 0);
        Check.checkedBlock(x, "the header", 1, 2, 65, 1);
        Check.due("recover()", x.recover(), 1);
        Check.due("number(63)", x.number(63), -9);
        Check.due("count(): 0 and 0 is no key", x.count(), 1);
        Check.thrown("number(0)", Check.NONE, () -> x.number(0));
    }

    private static void aCheckpointOfEachNumberOfKeys() {
        for (int size = 0; size <= 20; size++) {
            LoggedStore x = new LoggedStore();
            if (size > 0) {
                Check.commitRange(x, 64 - size, size);
            }
            int blocks = (size + 1) / 2;
            x.arm(blocks + 1, 0);
            Check.due("checkpoint of " + size, x.checkpoint(), 2);
            Check.checkedBlock(x, "header of " + size, 1, 2, 64 + size, size == 0 ? 0 : 1);
            for (int i = 0; i < 10; i++) {
                int key = 64 - size + 2 * i;
                boolean first = 2 * i < size;
                boolean second = 2 * i + 1 < size;
                Check.block(x, "area with " + size, 12 + i, first ? key : 0, first ? 1000 + key : 0,
                        second ? key + 1 : 0, second ? 1001 + key : 0);
            }
            x.recover();
            Check.due("count() of " + size, x.count(), size);
            for (int key = 64 - size; key < 64; key++) {
                Check.due("number(" + key + ") of " + size, x.number(key), 1000 + key);
            }
        }
    }

    private static void zerosWhereNoneIsLeft() {
        LoggedStore x = new LoggedStore();
        Check.commitPairs(x, 0, 5, 10, 6);
        x.checkpoint();
        x.checkpoint();
        Check.block(x, "two keys", 12, 0, 5, 10, 6);
        x.begin(0);
        x.remove(0, 10);
        x.commit(0);
        x.checkpoint();
        Check.block(x, "zeros over what was there", 12, 0, 5, 0, 0);
        Check.due("recover()", x.recover(), 2);
        Check.due("the zeros do not change key 0", x.number(0), 5);
        Check.due("count()", x.count(), 1);
    }

    private static void blocksWithoutKeysAreNotWritten() {
        LoggedStore x = new LoggedStore();
        Check.commitRange(x, 0, 5);
        x.checkpoint();
        x.begin(0);
        for (int key = 0; key < 3; key++) {
            x.remove(0, key);
        }
        x.commit(0);
        x.checkpoint();
        x.checkpoint();
        Check.block(x, "the one with keys", 12, 3, 1003, 4, 1004);
        Check.block(x, "what was there stays", 13, 2, 1002, 3, 1003);
        Check.block(x, "and stays", 14, 4, 1004, 0, 0);
        Check.due("recover()", x.recover(), 2);
        Check.due("it does not come back", x.count(), 2);
    }

    private static void theAreaIsWrittenBeforeTheHeader() {
        for (int n = 0; n < 3; n++) {
            LoggedStore x = new LoggedStore();
            Check.commitRange(x, 0, 4);
            x.arm(n, 0);
            Check.thrown("checkpoint()", Check.STATE, () -> x.checkpoint());
            Check.due("first area block, lost in " + n, x.word(12, 1), n > 0 ? 1000 : 0);
            Check.due("second area block, lost in " + n, x.word(13, 1), n > 1 ? 1002 : 0);
            Check.due("header, lost in " + n, x.word(1, 0), 0);
        }
    }

    private static void theLogFromItsFirstToItsLastBlock() {
        LoggedStore x = new LoggedStore();
        for (int v = 1; v <= 37; v++) {
            Check.due("left() before", x.left(), 76 - 2 * v);
            Check.due("commit", Check.commitPairs(x, v % 20, v), v);
        }
        Check.checkedBlock(x, "the first block", 22, 5, 1, 1);
        Check.checkedBlock(x, "the last but one", 94, 5, 17, 37);
        Check.checkedBlock(x, "the last block", 95, 7, 1, 37);
        Check.due("left()", x.left(), 0);
        Check.thrown("one commit more", Check.ARITHMETIC, () -> Check.commitPairs(x, 1, 1));
        Check.due("recover() goes to the last block", x.recover(), 37);
        Check.due("number(17)", x.number(17), 37);
        Check.due("left() then", x.left(), 0);
        Check.thrown("one commit more then", Check.ARITHMETIC, () -> Check.commitPairs(x, 1, 1));
    }

    private static void aCommitThatJustFits() {
        for (int left = 1; left <= 12; left++) {
            int writes = left;
            LoggedStore x = logWithLeft(left);
            Check.thrown("one block too many for " + left, Check.ARITHMETIC,
                    () -> Check.commitRange(x, 0, writes));
            x.remove(0, 0);
            Check.thrown("a removal is a write too", Check.ARITHMETIC, () -> x.commit(0));
            Check.due("it is open", x.drop(0), left);
            Check.due("left() as before", x.left(), left);
            if (left > 1) {
                int version = x.version();
                Check.due("just enough", Check.commitRange(x, 0, writes - 1), version + 1);
                Check.due("left() then", x.left(), 0);
            }
            int last = x.version();
            Check.due("recover()", x.recover(), last);
        }
    }

    /** A log of which so many blocks are left, 1 to 22: commits of 20, 20 and the rest. */
    private static LoggedStore logWithLeft(int left) {
        LoggedStore x = new LoggedStore();
        Check.commitRange(x, 0, 20);
        Check.commitRange(x, 0, 20);
        int rest = x.left() - left;
        int first = Math.min(rest - 2, 21);
        Check.commitRange(x, 0, first - 1);
        Check.commitRange(x, 0, rest - first - 1);
        Check.due("left()", x.left(), left);
        return x;
    }

    private static void theGreatestCommit() {
        LoggedStore x = new LoggedStore();
        x.begin(0);
        for (int key = 0; key < 64; key++) {
            x.put(0, key, 5 * key);
        }
        for (int key = 0; key < 44; key++) {
            x.remove(0, key);
        }
        Check.due("commit of 64 writes", x.commit(0), 1);
        Check.due("left()", x.left(), 9);
        Check.checkedBlock(x, "the last removal", 65, 6, 43, 0);
        Check.checkedBlock(x, "the first number", 66, 5, 44, 220);
        Check.checkedBlock(x, "the end", 86, 7, 64, 1);
        Check.due("recover()", x.recover(), 1);
        Check.due("count()", x.count(), 20);
        Check.due("number(63)", x.number(63), 315);
    }

    private static void theLogGoesOnBehindTheLastCommit() {
        LoggedStore x = new LoggedStore();
        Check.commitPairs(x, 1, 1, 2, 2);
        x.begin(1);
        x.put(1, 2, 3);
        x.begin(2);
        x.put(2, 2, 4);
        x.commit(1);
        Check.thrown("a refused one takes no block", Check.UNSUPPORTED, () -> x.commit(2));
        x.drop(2);
        x.begin(2);
        Check.due("one without writes takes none", x.commit(2), 2);
        Check.commitPairs(x, 5, 5);
        Check.checkedBlock(x, "the second", 25, 5, 2, 3);
        Check.checkedBlock(x, "its end", 26, 7, 1, 2);
        Check.checkedBlock(x, "the third", 27, 5, 5, 5);
        Check.checkedBlock(x, "its end", 28, 7, 1, 3);
    }

    private static void aCheckpointBeginsTheLogAnew() {
        LoggedStore x = logWithLeft(1);
        int version = x.version();
        Check.due("checkpoint()", x.checkpoint(), 2);
        Check.due("left()", x.left(), 74);
        Check.due("version()", x.version(), version);
        Check.checkedBlock(x, "the old log stays", 22, 5, 0, 1000);
        Check.due("commit", Check.commitPairs(x, 9, 9), version + 1);
        Check.checkedBlock(x, "the new log", 22, 9, 9, 9);
        Check.checkedBlock(x, "its end", 23, 11, 1, version + 1);
        Check.checkedBlock(x, "the old log behind it", 24, 5, 2, 1002);
        Check.due("recover() does not go into the old log", x.recover(), version + 1);
        Check.due("number(9)", x.number(9), 9);
        Check.due("left() then", x.left(), 72);
    }
}
