/** Promises 14 to 17: arm, isDown, recover and word. */
public final class PowerTest {
    public static void main(String[] args) {
        armCounts();
        armAnew();
        wordsOfTheLostWrite();
        whileDown();
        downComesFirst();
        recoverWhenUp();
        recoverDisarms();
        leftoversOfALostCommit();
        lostCheckpoint();
        goodThoughLost();
        noConflictAfterRecover();
        words();
        Check.end();
    }

    private static void armCounts() {
        for (int n = 0; n < 3; n++) {
            LoggedStore x = new LoggedStore();
            x.arm(n, 0);
            Check.thrown("commit of 3 writes, armed " + n, Check.STATE,
                    () -> Check.commitPairs(x, 1, 1, 2, 2));
            Check.due("isDown()", x.isDown(), true);
            for (int i = 0; i < 3; i++) {
                Check.due("word(" + (22 + i) + ", 0)", x.word(22 + i, 0) != 0, i < n);
            }
            Check.due("recover()", x.recover(), 0);
            Check.due("isDown() then", x.isDown(), false);
            Check.due("count() then", x.count(), 0);
        }
        LoggedStore x = new LoggedStore();
        x.arm(3, 0);
        Check.due("commit of 3 writes, armed 3", Check.commitPairs(x, 1, 1, 2, 2), 1);
        Check.due("isDown()", x.isDown(), false);
        Check.thrown("the next write", Check.STATE, () -> x.checkpoint());
        Check.due("recover() has the commit", x.recover(), 1);
        Check.due("number(2)", x.number(2), 2);
    }

    private static void armAnew() {
        LoggedStore x = new LoggedStore();
        x.arm(0, 0);
        x.arm(-1, 0);
        Check.due("disarmed", Check.commitRange(x, 0, 20), 1);
        x.arm(0, 0);
        x.arm(Integer.MIN_VALUE, 0);
        Check.due("disarmed again", x.checkpoint(), 2);
        x.arm(0, 0);
        x.arm(2, 0);
        Check.due("armed anew", Check.commitPairs(x, 1, 1), 2);
        x.arm(Integer.MAX_VALUE, 0);
        Check.due("armed far away", Check.commitPairs(x, 1, 1), 3);
        x.arm(1, 0);
        x.begin(0);
        x.put(0, 1, 2);
        x.drop(0);
        Check.due("only writes count", x.count(), 20);
        Check.thrown("the second write from there", Check.STATE, () -> Check.commitPairs(x, 1, 1));
    }

    private static void wordsOfTheLostWrite() {
        int[][] asked = {{0, 0}, {1, 1}, {2, 2}, {3, 3}, {4, 3}, {9, 3}, {Integer.MAX_VALUE, 3},
            {-1, 0}, {Integer.MIN_VALUE, 0}};
        for (int[] w : asked) {
            LoggedStore x = new LoggedStore();
            x.arm(0, w[0]);
            Check.thrown("lost with w " + w[0], Check.STATE, () -> Check.commitPairs(x, 9, 99));
            int[] whole = {5, 9, 99, Check.checkWord(22, 5, 9, 99)};
            for (int i = 0; i < 4; i++) {
                Check.due("w " + w[0] + ": word(22, " + i + ")", x.word(22, i), i < w[1] ? whole[i] : 0);
            }
        }
    }

    private static LoggedStore lost() {
        LoggedStore x = new LoggedStore();
        Check.commitPairs(x, 1, 10);
        x.begin(1);
        x.put(1, 2, 20);
        x.arm(1, 0);
        Check.thrown("lost", Check.STATE, () -> x.commit(1));
        return x;
    }

    private static void whileDown() {
        LoggedStore x = lost();
        Check.thrown("begin", Check.STATE, () -> x.begin(0));
        Check.thrown("get", Check.STATE, () -> x.get(1, 1));
        Check.thrown("put", Check.STATE, () -> x.put(1, 1, 1));
        Check.thrown("remove", Check.STATE, () -> x.remove(1, 1));
        Check.thrown("next", Check.STATE, () -> x.next(1, 0));
        Check.thrown("drop", Check.STATE, () -> x.drop(1));
        Check.thrown("commit", Check.STATE, () -> x.commit(1));
        Check.thrown("checkpoint", Check.STATE, () -> x.checkpoint());
        Check.thrown("number", Check.STATE, () -> x.number(1));
        Check.thrown("count", Check.STATE, () -> x.count());
        Check.thrown("version", Check.STATE, () -> x.version());
        Check.thrown("left", Check.STATE, () -> x.left());
        x.arm(-1, 0);
        Check.due("arm does not bring it up", x.isDown(), true);
        Check.thrown("begin after arm", Check.STATE, () -> x.begin(0));
        Check.due("word", x.word(24, 1), 2);
        Check.due("the word behind the lost write", x.word(25, 0), 0);
        Check.due("recover", x.recover(), 1);
        Check.thrown("transactions are closed", Check.ARGUMENT, () -> x.get(1, 1));
        Check.due("number(1)", x.number(1), 10);
        Check.thrown("number(2)", Check.NONE, () -> x.number(2));
        Check.due("left()", x.left(), 72);
    }

    private static void downComesFirst() {
        LoggedStore x = lost();
        Check.thrown("begin(9)", Check.STATE, () -> x.begin(9));
        Check.thrown("get(9, 99)", Check.STATE, () -> x.get(9, 99));
        Check.thrown("put(9, 99, 1)", Check.STATE, () -> x.put(9, 99, 1));
        Check.thrown("remove(9, 99)", Check.STATE, () -> x.remove(9, 99));
        Check.thrown("next(9, 99)", Check.STATE, () -> x.next(9, 99));
        Check.thrown("drop(9)", Check.STATE, () -> x.drop(9));
        Check.thrown("commit(9)", Check.STATE, () -> x.commit(9));
        Check.thrown("number(99)", Check.STATE, () -> x.number(99));
    }

    private static void recoverWhenUp() {
        LoggedStore x = new LoggedStore();
        Check.due("recover() of a new object", x.recover(), 0);
        Check.commitPairs(x, 1, 10, 5, 50);
        x.checkpoint();
        Check.commitPairs(x, 1, 11, 6, 60);
        x.begin(0);
        x.remove(0, 5);
        x.commit(0);
        x.begin(2);
        x.put(2, 7, 7);
        Check.due("recover()", x.recover(), 3);
        Check.thrown("transaction 2 is closed", Check.ARGUMENT, () -> x.drop(2));
        Check.due("count()", x.count(), 2);
        Check.due("number(1)", x.number(1), 11);
        Check.due("number(6)", x.number(6), 60);
        Check.due("version()", x.version(), 3);
        Check.due("left()", x.left(), 74 - 5);
        Check.due("begin(2)", x.begin(2), 3);
        Check.thrown("its old writes are gone", Check.NONE, () -> x.get(2, 7));
        Check.due("no writes", x.commit(2), 3);
        Check.due("the epoch is known", x.checkpoint(), 3);
        Check.due("the area is known", x.word(2, 0), 1);
    }

    private static void recoverDisarms() {
        LoggedStore x = new LoggedStore();
        x.arm(0, 0);
        x.recover();
        Check.due("not armed after recover()", Check.commitPairs(x, 1, 1), 1);
        x.arm(0, 0);
        Check.thrown("lost", Check.STATE, () -> x.checkpoint());
        x.arm(0, 0);
        Check.due("recover() makes no writes", x.recover(), 1);
        Check.due("not armed, though armed while down", x.checkpoint(), 2);
    }

    private static void leftoversOfALostCommit() {
        LoggedStore x = new LoggedStore();
        Check.commitPairs(x, 1, 10);
        x.arm(3, 0);
        Check.thrown("lost in its end", Check.STATE, () -> Check.commitPairs(x, 1, 11, 2, 21, 3, 31));
        Check.due("recover()", x.recover(), 1);
        Check.due("left()", x.left(), 72);
        Check.due("a shorter commit over it", Check.commitPairs(x, 4, 40), 2);
        Check.checkedBlock(x, "its end", 25, 7, 1, 2);
        Check.checkedBlock(x, "a leftover behind it", 26, 5, 3, 31);
        Check.due("recover() passes the leftover by", x.recover(), 2);
        Check.due("count()", x.count(), 2);
        Check.due("number(1)", x.number(1), 10);
        Check.due("left() behind the end", x.left(), 70);
        Check.due("the next commit", Check.commitPairs(x, 5, 50), 3);
        Check.checkedBlock(x, "over the leftover", 26, 5, 5, 50);
        Check.due("recover() then", x.recover(), 3);
        Check.due("number(5)", x.number(5), 50);
        Check.thrown("number(3)", Check.NONE, () -> x.number(3));
    }

    private static void lostCheckpoint() {
        for (int w = 0; w < 4; w++) {
            for (int n = 0; n < 3; n++) {
                LoggedStore x = new LoggedStore();
                Check.commitPairs(x, 1, 10, 2, 20, 3, 30);
                x.checkpoint();
                Check.commitPairs(x, 2, 21, 4, 40);
                x.arm(n, w);
                Check.thrown("checkpoint lost", Check.STATE, () -> x.checkpoint());
                Check.due("recover()", x.recover(), 2);
                Check.due("count()", x.count(), 4);
                Check.due("number(2)", x.number(2), 21);
                Check.due("left()", x.left(), 71);
                Check.due("the epoch was not reached", x.checkpoint(), 3);
                Check.due("recover() of it", x.recover(), 2);
                Check.due("number(4)", x.number(4), 40);
                Check.due("left() of it", x.left(), 74);
            }
        }
    }

    /** The words that got in, with the old check behind them, make the whole block here. */
    private static void goodThoughLost() {
        int due = Check.checkWord(23, 4 * 2 + 3, 1, 2);
        int number = Forge.numberFor(23, 5, 6, due);
        LoggedStore x = new LoggedStore();
        Check.commitPairs(x, 3, 1, 6, number);
        Check.due("the check that a later block will need", x.word(23, 3), due);
        x.checkpoint();
        x.arm(1, 3);
        Check.thrown("lost in its end", Check.STATE, () -> Check.commitPairs(x, 9, 90));
        Check.due("recover() goes by what is on the disk", x.recover(), 2);
        Check.due("number(9)", x.number(9), 90);
        Check.due("left()", x.left(), 72);
    }

    private static void noConflictAfterRecover() {
        LoggedStore x = new LoggedStore();
        Check.commitPairs(x, 1, 1);
        Check.commitPairs(x, 1, 2);
        x.recover();
        Check.due("commit after recover()", Check.commitPairs(x, 1, 3), 3);
        x.begin(1);
        x.put(1, 1, 4);
        Check.commitPairs(x, 1, 5);
        Check.thrown("conflict after recover()", Check.UNSUPPORTED, () -> x.commit(1));
    }

    private static void words() {
        LoggedStore x = new LoggedStore();
        for (int i = 0; i < 3; i++) {
            Check.commitRange(x, 0, 20);
        }
        Check.commitRange(x, 0, 10);
        int[] none = {-1, 96, Integer.MIN_VALUE, Integer.MAX_VALUE};
        for (int block : none) {
            Check.due("word(" + block + ", 0)", x.word(block, 0), 0);
        }
        int[] noWord = {-1, 4, Integer.MIN_VALUE, Integer.MAX_VALUE};
        for (int i : noWord) {
            Check.due("word(0, " + i + ")", x.word(0, i), 0);
            Check.due("word(95, " + i + ")", x.word(95, i), 0);
            Check.due("word(50, " + i + ")", x.word(50, i), 0);
        }
        Check.due("word(1, -4)", x.word(1, -4), 0);
        Check.checkedBlock(x, "the last block", 95, 7, 10, 4);
    }
}
