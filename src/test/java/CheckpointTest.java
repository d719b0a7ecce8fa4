/** Promise 9: checkpoint, and what it leaves on the disk. */
public final class CheckpointTest {
    public static void main(String[] args) {
        emptyCheckpoint();
        areasByTurns();
        fullArea();
        transactionsGoOn();
        manyEpochs();
        Check.end();
    }

    private static void emptyCheckpoint() {
        LoggedStore x = new LoggedStore();
        x.arm(1, 0);
        Check.due("checkpoint of nothing makes one write", x.checkpoint(), 2);
        Check.checkedBlock(x, "header of epoch 2", 1, 2, 64, 0);
        Check.checkedBlock(x, "header of epoch 1 stays", 0, 1, 0, 0);
        Check.block(x, "area 1 is not written", 12, 0, 0, 0, 0);
    }

    private static void areasByTurns() {
        LoggedStore x = new LoggedStore();
        Check.commitPairs(x, 50, 5, 0, 7, 20, -2);
        Check.due("first checkpoint", x.checkpoint(), 2);
        Check.block(x, "area 1", 12, 0, 7, 20, -2);
        Check.block(x, "area 1, odd end", 13, 50, 5, 0, 0);
        Check.block(x, "area 1, not more", 14, 0, 0, 0, 0);
        Check.block(x, "area 0 is not written", 2, 0, 0, 0, 0);
        Check.checkedBlock(x, "header", 1, 2, 64 + 3, 1);
        Check.due("left()", x.left(), 74);
        Check.checkedBlock(x, "the log stays on the disk", 22, 5, 0, 7);
        x.begin(0);
        x.remove(0, 50);
        x.commit(0);
        Check.due("second checkpoint", x.checkpoint(), 3);
        Check.block(x, "area 0", 2, 0, 7, 20, -2);
        Check.block(x, "area 0, not more", 3, 0, 0, 0, 0);
        Check.block(x, "area 1 stays", 13, 50, 5, 0, 0);
        Check.checkedBlock(x, "header", 0, 3, 2, 2);
        Check.checkedBlock(x, "the other header stays", 1, 2, 64 + 3, 1);
        x.begin(0);
        x.remove(0, 0);
        x.remove(0, 20);
        x.put(0, 1, 1);
        x.commit(0);
        Check.due("third checkpoint", x.checkpoint(), 4);
        Check.block(x, "area 1 again", 12, 1, 1, 0, 0);
        Check.block(x, "what has no keys is not written", 13, 50, 5, 0, 0);
        Check.due("recover() takes so many keys", x.recover(), 3);
        Check.due("count() after it", x.count(), 1);
        Check.due("number(1) after it", x.number(1), 1);
    }

    private static void fullArea() {
        LoggedStore x = new LoggedStore();
        Check.commitRange(x, 44, 20);
        x.arm(11, 0);
        Check.due("11 writes are enough for 20 keys", x.checkpoint(), 2);
        for (int i = 0; i < 10; i++) {
            int key = 44 + 2 * i;
            Check.block(x, "full area", 12 + i, key, 1000 + key, key + 1, 1001 + key);
        }
        Check.block(x, "the log is not touched", 22, 5, 44, 1044, Check.checkWord(22, 5, 44, 1044));
        Check.due("recover()", x.recover(), 1);
        Check.due("count() after it", x.count(), 20);
        for (int key = 44; key < 64; key++) {
            Check.due("number(" + key + ") after it", x.number(key), 1000 + key);
        }
    }

    private static void transactionsGoOn() {
        LoggedStore x = new LoggedStore();
        Check.commitPairs(x, 1, 1);
        x.begin(1);
        x.put(1, 2, 2);
        x.checkpoint();
        Check.block(x, "writes that are not committed stay out", 12, 1, 1, 0, 0);
        Check.due("the version stays", x.version(), 1);
        Check.due("get after the checkpoint", x.get(1, 2), 2);
        Check.due("commit after the checkpoint", x.commit(1), 2);
        Check.checkedBlock(x, "the log begins anew", 22, 9, 2, 2);
        Check.due("recover()", x.recover(), 2);
        Check.due("number(2)", x.number(2), 2);
    }

    private static void manyEpochs() {
        LoggedStore x = new LoggedStore();
        for (int epoch = 2; epoch <= 120; epoch++) {
            Check.due("version", Check.commitPairs(x, epoch % 3, epoch), epoch - 1);
            Check.due("epoch", x.checkpoint(), epoch);
        }
        Check.due("recover() of epoch 120", x.recover(), 119);
        Check.due("number(0)", x.number(0), 120);
        Check.due("number(1)", x.number(1), 118);
        Check.due("number(2)", x.number(2), 119);
        Check.due("the epoch goes on", x.checkpoint(), 121);
        Check.checkedBlock(x, "header of epoch 121", 0, 121, 3, 119);
    }
}
