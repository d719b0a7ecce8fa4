/** 'Terms', TO RECOVER: a test for each sentence that names a boundary. */
public final class RecoverTermsTest {
    public static void main(String[] args) {
        allTransactionsAreClosed();
        theOnlyHeaderCounts();
        theGreaterEpochCounts();
        aHeaderThatIsNotGoodDoesNotCount();
        theStoreIsWhatTheAreaSays();
        blocksWithoutAnEndAreNotDone();
        eachEndDoesWhatWasKeptSinceTheOneBefore();
        aBlockThatIsNotGoodEndsTheLog();
        aBadBlockInFrontOfARightEnd();
        aBlockOfAnotherEpochEndsTheLog();
        anEndOfAnotherEpochBehindABlockOfThisOne();
        anEndThatIsGoodAfterOneTwoOrThreeWords();
        anEndWhoseNumberIsTooGreat();
        anEndWhoseNumberIsTooSmall();
        anEndWhoseVersionIsWrong();
        aWrongEndIsTheEnd();
        anOldEndThatHasBecomeRight();
        aNumberThatWasNeverPutThere();
        moreThan20KeysByAnOldEnd();
        theLogGoesOnBehindTheLastEndThatDidSomething();
        recoverTwice();
        Check.end();
    }

    private static void allTransactionsAreClosed() {
        LoggedStore x = new LoggedStore();
        for (int t = 0; t < 3; t++) {
            x.begin(t);
            x.put(t, t, t);
        }
        Check.due("recover()", x.recover(), 0);
        for (int t = 0; t < 3; t++) {
            int it = t;
            Check.thrown("drop(" + t + ")", Check.ARGUMENT, () -> x.drop(it));
            Check.due("begin(" + t + ")", x.begin(t), 0);
            Check.due("its writes are gone", x.next(t, 0), -1);
        }
    }

    private static void theOnlyHeaderCounts() {
        LoggedStore x = new LoggedStore();
        Check.due("recover() of a new one", x.recover(), 0);
        Check.due("left()", x.left(), 74);
        Check.due("epoch 1 was found", x.checkpoint(), 2);
    }

    private static void theGreaterEpochCounts() {
        LoggedStore x = new LoggedStore();
        for (int epoch = 2; epoch <= 6; epoch++) {
            Check.commitPairs(x, epoch, 10 * epoch);
            x.checkpoint();
            Check.due("recover() in epoch " + epoch, x.recover(), epoch - 1);
            Check.due("number()", x.number(epoch), 10 * epoch);
            Check.due("count()", x.count(), epoch - 1);
            Check.due("left()", x.left(), 74);
        }
    }

    private static void aHeaderThatIsNotGoodDoesNotCount() {
        for (int epoch = 1; epoch <= 4; epoch++) {
            for (int w = 0; w < 4; w++) {
                LoggedStore x = new LoggedStore();
                for (int i = 1; i < epoch; i++) {
                    Check.commitPairs(x, i, i);
                    x.checkpoint();
                }
                Check.commitPairs(x, 40, epoch);
                x.arm((epoch + 1) / 2, w);
                Check.thrown("lost in the header", Check.STATE, () -> x.checkpoint());
                Check.due("its words", x.word(epoch % 2, 0), w > 0 ? epoch + 1 : Math.max(0, epoch - 1));
                Check.due("recover()", x.recover(), epoch);
                Check.due("number(40)", x.number(40), epoch);
                Check.due("count()", x.count(), epoch);
                Check.due("left() of the epoch before", x.left(), 72);
                Check.due("checkpoint()", x.checkpoint(), epoch + 1);
                Check.due("recover() then", x.recover(), epoch);
                Check.due("left() then", x.left(), 74);
            }
        }
    }

    private static void theStoreIsWhatTheAreaSays() {
        LoggedStore x = new LoggedStore();
        Check.commitPairs(x, 0, 0, 1, 1, 2, 2);
        x.checkpoint();
        Check.due("recover()", x.recover(), 1);
        Check.due("key 0 with number 0 is there", x.number(0), 0);
        Check.due("count()", x.count(), 3);
        x.begin(0);
        x.remove(0, 0);
        x.remove(0, 2);
        x.commit(0);
        x.checkpoint();
        Check.due("recover() then", x.recover(), 2);
        Check.due("count() then", x.count(), 1);
        Check.thrown("0 and 0 where none is left is no key", Check.NONE, () -> x.number(0));
    }

    private static void blocksWithoutAnEndAreNotDone() {
        for (int n = 1; n <= 3; n++) {
            LoggedStore x = new LoggedStore();
            Check.commitPairs(x, 9, 9);
            x.arm(n, 0);
            Check.thrown("lost", Check.STATE, () -> Check.commitPairs(x, 1, 1, 2, 2, 9, 3));
            Check.due("recover()", x.recover(), 1);
            Check.due("count()", x.count(), 1);
            Check.due("number(9)", x.number(9), 9);
            Check.due("left() without them", x.left(), 72);
        }
    }

    private static void eachEndDoesWhatWasKeptSinceTheOneBefore() {
        LoggedStore x = new LoggedStore();
        Check.commitPairs(x, 1, 1, 2, 2, 3, 3);
        Check.commitPairs(x, 3, 30);
        x.begin(0);
        x.remove(0, 1);
        x.put(0, 4, 4);
        x.commit(0);
        Check.due("recover()", x.recover(), 3);
        Check.due("count()", x.count(), 3);
        Check.thrown("number(1)", Check.NONE, () -> x.number(1));
        Check.due("number(2)", x.number(2), 2);
        Check.due("number(3)", x.number(3), 30);
        Check.due("number(4)", x.number(4), 4);
        Check.due("left()", x.left(), 74 - 9);
    }

    private static void aBlockThatIsNotGoodEndsTheLog() {
        for (int w = 1; w < 4; w++) {
            LoggedStore x = new LoggedStore();
            Check.commitPairs(x, 1, 1);
            x.arm(1, w);
            Check.thrown("lost in its end", Check.STATE, () -> Check.commitPairs(x, 2, 2));
            Check.due("the end's first word is there", x.word(25, 0), 7);
            Check.due("recover()", x.recover(), 1);
            Check.due("count()", x.count(), 1);
            Check.due("left()", x.left(), 72);
        }
    }

    /**
     * In epoch 2, at version 1: an end in block 25 with this version and a number below 3, which is
     * wrong now; with 1 and 3 it is right when a commit has taken blocks 22 and 23.
     */
    private static LoggedStore endFor24(int number, int version) {
        LoggedStore x = new LoggedStore();
        Check.commitPairs(x, 50, 50);
        Forge.plant(x, 1, 25, number, version, Forge.check(25, 11, number, version));
        Check.due("checkpoint()", x.checkpoint(), 2);
        Forge.loseEnd(x, 25, 1);
        Check.checkedBlock(x, "good, and of this epoch", 25, 11, number, version);
        Check.due("wrong: three blocks are in front of it", x.recover(), 1);
        return x;
    }

    private static void aBadBlockInFrontOfARightEnd() {
        // The first word is the same as before, so with that alone the block would be good.
        for (int w = 2; w < 4; w++) {
            LoggedStore x = endFor24(1, 3);
            Check.commitPairs(x, 51, 51);
            Forge.loseNumber(x, 5, 500, w);
            Check.due("the key of it is there", x.word(24, 1), 5);
            Check.due("recover(), lost after " + w, x.recover(), 2);
            Check.due("count()", x.count(), 2);
            Check.due("left()", x.left(), 72);
        }
    }

    /** An end in block 25, left from epoch 1, that is right in epoch 2 but for the epoch. */
    private static LoggedStore endOfEpoch1() {
        LoggedStore x = new LoggedStore();
        Check.commitPairs(x, 50, 50);
        Forge.plant(x, 1, 25, 1, 3, Forge.check(25, 7, 1, 3));
        Forge.loseEnd(x, 25, 1);
        Check.due("wrong in epoch 1, where the version is 1", x.recover(), 1);
        Check.due("checkpoint()", x.checkpoint(), 2);
        Check.due("commit", Check.commitPairs(x, 51, 51), 2);
        Check.checkedBlock(x, "a write of epoch 1", 24, 5, 0, Forge.fillerNumber(0));
        Check.checkedBlock(x, "an end of epoch 1", 25, 7, 1, 3);
        return x;
    }

    private static void aBlockOfAnotherEpochEndsTheLog() {
        LoggedStore x = endOfEpoch1();
        Check.due("recover()", x.recover(), 2);
        Check.due("count()", x.count(), 2);
        Check.due("left()", x.left(), 72);
    }

    private static void anEndOfAnotherEpochBehindABlockOfThisOne() {
        LoggedStore x = endOfEpoch1();
        x.arm(1, 0);
        Check.thrown("lost in its end", Check.STATE, () -> Check.commitPairs(x, 5, 5));
        Check.checkedBlock(x, "a write of epoch 2", 24, 9, 5, 5);
        Check.checkedBlock(x, "an end of epoch 1", 25, 7, 1, 3);
        Check.due("recover()", x.recover(), 2);
        Check.thrown("number(5)", Check.NONE, () -> x.number(5));
        Check.due("left()", x.left(), 72);
    }

    /** By the words of TO RECOVER such a commit counts, though its call was lost. */
    private static void anEndThatIsGoodAfterOneTwoOrThreeWords() {
        int due = Forge.check(24, 7, 2, 1);
        // The words that the lost write does not reach must be there already.
        int[][] planted = {{1, 2, 1}, {2, 9, 1}, {3, 9, 99}};
        for (int[] one : planted) {
            LoggedStore x = new LoggedStore();
            Forge.plant(x, 1, 24, one[1], one[2], due);
            Forge.loseEnd(x, 24, one[0]);
            Check.checkedBlock(x, "good", 24, 7, 2, 1);
            Check.due("recover(), lost after " + one[0], x.recover(), 1);
            Check.due("count()", x.count(), 2);
            Check.due("number(1)", x.number(1), Forge.fillerNumber(1));
            Check.due("left()", x.left(), 71);
            Check.due("the next commit", Check.commitPairs(x, 7, 7), 2);
            Check.checkedBlock(x, "is behind it", 25, 5, 7, 7);
            Check.due("recover() then", x.recover(), 2);
        }
    }

    private static void anEndWhoseNumberIsTooGreat() {
        int[] numbers = {2, 3, 63};
        for (int number : numbers) {
            LoggedStore x = new LoggedStore();
            Forge.plant(x, 1, 23, number, 1, Forge.check(23, 7, number, 1));
            Forge.loseEnd(x, 23, 1);
            Check.checkedBlock(x, "good, the version right", 23, 7, number, 1);
            nothingWasDone(x, "an end of 1 that says " + number);
        }
    }

    private static void anEndWhoseNumberIsTooSmall() {
        for (int number = 1; number <= 2; number++) {
            LoggedStore x = new LoggedStore();
            Check.commitPairs(x, 50, 50);
            Forge.plant(x, 1, 25, number, 2, Forge.check(25, 11, number, 2));
            x.checkpoint();
            Forge.loseEnd(x, 25, 1);
            Check.checkedBlock(x, "good, the version right", 25, 11, number, 2);
            Check.due("an end of 3 that says " + number, x.recover(), 1);
            Check.due("count()", x.count(), 1);
            Check.due("left()", x.left(), 74);
        }
    }

    private static void anEndWhoseVersionIsWrong() {
        int[] versions = {0, 2, -1, 3, Integer.MIN_VALUE, Integer.MAX_VALUE};
        for (int version : versions) {
            LoggedStore x = new LoggedStore();
            Forge.plant(x, 1, 23, 9, version, Forge.check(23, 7, 1, version));
            Forge.loseEnd(x, 23, 2);
            Check.checkedBlock(x, "good, the number right", 23, 7, 1, version);
            nothingWasDone(x, "version " + version);
        }
    }

    private static void nothingWasDone(LoggedStore x, String what) {
        Check.due(what + ": recover()", x.recover(), 0);
        Check.due(what + ": version()", x.version(), 0);
        Check.due(what + ": count()", x.count(), 0);
        Check.due(what + ": left()", x.left(), 74);
        Check.due(what + ": commit", Check.commitPairs(x, 30, 3), 1);
        Check.checkedBlock(x, what + ": the commit is over it", 23, 7, 1, 1);
        Check.due(what + ": recover() then", x.recover(), 1);
        Check.due(what + ": number(30)", x.number(30), 3);
    }

    /**
     * Behind the wrong end in block 25 is another one, which would be right for block 26 alone, for
     * 24 and 26, or for all three, if the log were gone through further.
     */
    private static void aWrongEndIsTheEnd() {
        for (int number = 1; number <= 3; number++) {
            LoggedStore x = new LoggedStore();
            Check.commitPairs(x, 50, 50);
            Check.commitPairs(x, 51, 51);
            Forge.plant(x, 1, 27, number, 4, Forge.check(27, 11, number, 4));
            x.checkpoint();
            Forge.loseEnd(x, 27, 1);
            Check.due("wrong: five blocks are in front of it", x.recover(), 2);
            Forge.plant(x, 2, 25, 9, 4, Forge.check(25, 11, 9, 4));
            Forge.loseEnd(x, 25, 1);
            Check.due("wrong: three blocks are in front of it", x.recover(), 2);
            Check.due("commit", Check.commitPairs(x, 60, 60), 3);
            Check.checkedBlock(x, "a write", 24, 9, 2, Forge.fillerNumber(2));
            Check.checkedBlock(x, "an end, wrong by its number", 25, 11, 9, 4);
            Check.checkedBlock(x, "a write", 26, 9, 4, Forge.fillerNumber(4));
            Check.checkedBlock(x, "an end for " + number, 27, 11, number, 4);
            Check.due("recover()", x.recover(), 3);
            Check.due("count()", x.count(), 3);
            Check.due("left()", x.left(), 72);
        }
    }

    /** By the words of TO RECOVER it does what is kept, though no commit was ever like that. */
    private static void anOldEndThatHasBecomeRight() {
        LoggedStore x = endFor24(1, 3);
        Check.due("a commit in front of it", Check.commitPairs(x, 51, 51), 2);
        Check.thrown("key 2 has none", Check.NONE, () -> x.number(2));
        Check.due("recover()", x.recover(), 3);
        Check.due("count()", x.count(), 3);
        Check.due("number(2), from the lost commit", x.number(2), Forge.fillerNumber(2));
        Check.due("left()", x.left(), 70);
        Check.due("the next commit", Check.commitPairs(x, 52, 52), 4);
        Check.checkedBlock(x, "is behind it", 26, 9, 52, 52);
        Check.due("recover() then", x.recover(), 4);
        Check.due("count() then", x.count(), 4);
    }

    /** The lost write of a number leaves the old one, and the check of the old one behind it. */
    private static void aNumberThatWasNeverPutThere() {
        LoggedStore x = endFor24(1, 3);
        Forge.plant(x, 2, 24, 60, 777, Forge.check(24, 9, 5, 777));
        Check.commitPairs(x, 51, 51);
        Check.due("block 24 is not good", x.recover(), 2);
        Forge.loseNumber(x, 5, 500, 2);
        Check.checkedBlock(x, "good with the old number", 24, 9, 5, 777);
        Check.due("recover()", x.recover(), 3);
        Check.due("number(5)", x.number(5), 777);
        Check.thrown("number(60)", Check.NONE, () -> x.number(60));
    }

    /** TO RECOVER names no limit; the calls behind it must at least throw nothing of their own. */
    private static void moreThan20KeysByAnOldEnd() {
        LoggedStore x = new LoggedStore();
        Check.commitRange(x, 40, 19);
        x.checkpoint();
        Check.commitPairs(x, 40, 1);
        int check = Forge.check(42, 15, 18, 4);
        beginRemovals(x, 18);
        x.put(0, 18, Forge.numberFor(42, 9, 18, check));
        loseAndRecover(x, 19, 0);
        beginRemovals(x, 18);
        x.put(0, 18, 4);
        loseAndRecover(x, 18, 3);
        x.checkpoint();
        beginRemovals(x, 20);
        loseAndRecover(x, 20, 1);
        Check.checkedBlock(x, "an end for 18 blocks", 42, 15, 18, 4);
        beginSwap(x);
        loseAndRecover(x, 20, 0);
        Check.due("commit", Check.commitPairs(x, 41, 1), 3);
        Check.due("recover()", x.recover(), 4);
        Check.due("19 keys and the 18 of the old end", x.count(), 37);
        Check.thrown("a commit would leave too many", Check.ARITHMETIC,
                () -> Check.commitPairs(x, 41, 2));
        Check.due("checkpoint()", x.checkpoint(), 4);
        Check.due("recover() then", x.recover(), 4);
        Check.due("left()", x.left(), 74);
    }

    private static void beginRemovals(LoggedStore x, int howMany) {
        x.begin(0);
        for (int key = 0; key < howMany; key++) {
            x.put(0, key, 0);
            x.remove(0, key);
        }
    }

    /** Numbers for keys 0 to 19, and none for those that had one. */
    private static void beginSwap(LoggedStore x) {
        x.begin(0);
        for (int key = 40; key < 59; key++) {
            x.remove(0, key);
        }
        for (int key = 0; key < 20; key++) {
            x.put(0, key, key);
        }
    }

    private static void loseAndRecover(LoggedStore x, int n, int w) {
        x.arm(n, w);
        Check.thrown("a commit that is lost", Check.STATE, () -> x.commit(0));
        x.recover();
    }

    private static void theLogGoesOnBehindTheLastEndThatDidSomething() {
        LoggedStore x = new LoggedStore();
        Check.commitPairs(x, 50, 50);
        x.arm(3, 0);
        Check.thrown("lost in its end", Check.STATE, () -> Check.commitPairs(x, 1, 1, 2, 2, 3, 3));
        Check.due("recover()", x.recover(), 1);
        Check.due("left()", x.left(), 72);
        Check.due("commit", Check.commitPairs(x, 60, 60), 2);
        Check.checkedBlock(x, "over the lost one", 24, 5, 60, 60);
        Check.checkedBlock(x, "its end", 25, 7, 1, 2);
        Check.checkedBlock(x, "what is left of the lost one", 26, 5, 3, 3);
        Check.due("recover() then", x.recover(), 2);
        Check.due("left() then", x.left(), 70);
        Check.due("count()", x.count(), 2);
    }

    private static void recoverTwice() {
        LoggedStore x = new LoggedStore();
        Check.commitPairs(x, 1, 1, 2, 2);
        x.checkpoint();
        Check.commitPairs(x, 2, 20, 3, 30);
        x.arm(1, 2);
        Check.thrown("lost", Check.STATE, () -> Check.commitPairs(x, 4, 4, 5, 5));
        for (int i = 0; i < 3; i++) {
            Check.due("recover()", x.recover(), 2);
            Check.due("count()", x.count(), 3);
            Check.due("number(2)", x.number(2), 20);
            Check.due("left()", x.left(), 71);
        }
    }
}
