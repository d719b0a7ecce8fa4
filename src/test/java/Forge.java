/**
 * Makes log blocks good that were never written whole: a lost write leaves the words that it did
 * not reach, and among these may be any number, and any check that a number gives a block.
 *
 * <p>All of it is done by commits of transaction 0, which put numbers for the keys from 0 on into
 * the log blocks in front.
 */
final class Forge {
    private static final int FACTOR = 1664525;

    private Forge() {
    }

    static int check(int block, int a, int b, int c) {
        return Check.checkWord(block, a, b, c);
    }

    /** The third word with which a block that begins with a and b has this check. */
    static int numberFor(int block, int a, int b, int check) {
        // The factor is odd, so it has an inverse: each step doubles the bits that are right.
        int inverse = 1;
        for (int i = 0; i < 5; i++) {
            inverse *= 2 - FACTOR * inverse;
        }
        return ((65536 * a + b) ^ (1013904223 + 97 * block) ^ check) * inverse;
    }

    /** The block where the next commit is logged from. */
    static int logNext(LoggedStore x) {
        return 96 - x.left();
    }

    /** The number that the commits here put for a key in front. */
    static int fillerNumber(int key) {
        return 100 + key;
    }

    /**
     * Leaves the word of kind 1, a key, a number and any check in a log block: a first commit gives
     * the block its check, a second is lost in it behind the third word. The key is greater than
     * those in front of it.
     */
    static void plant(LoggedStore x, int epoch, int block, int key, int number, int check) {
        int front = block - logNext(x);
        int first = numberFor(block, 4 * epoch + 1, key, check);
        beginFillers(x, front);
        x.put(0, key, first);
        lose(x, front + 1, 0);
        x.recover();
        beginFillers(x, front);
        x.put(0, key, number);
        lose(x, front, 3);
        x.recover();
        Check.block(x, "planted", block, 4 * epoch + 1, key, number, check);
    }

    /** A commit whose block of kind 3 belongs into this block is lost in it. The store is down. */
    static void loseEnd(LoggedStore x, int block, int w) {
        int front = block - logNext(x);
        beginFillers(x, front);
        lose(x, front, w);
    }

    /** A commit of one number, which belongs into the next log block, is lost in it. */
    static void loseNumber(LoggedStore x, int key, int number, int w) {
        x.begin(0);
        x.put(0, key, number);
        lose(x, 0, w);
    }

    private static void beginFillers(LoggedStore x, int howMany) {
        x.begin(0);
        for (int key = 0; key < howMany; key++) {
            x.put(0, key, fillerNumber(key));
        }
    }

    private static void lose(LoggedStore x, int n, int w) {
        x.arm(n, w);
        Check.thrown("a commit that is lost", Check.STATE, () -> x.commit(0));
    }
}
