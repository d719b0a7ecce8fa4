import java.util.Arrays;
import java.util.NoSuchElementException;

/**
 * A store of numbers by keys with transactions that see it as it was when they began, kept on a
 * disk whose power may fail in any write. The document is ../shared/DOC.md.
 */
public final class LoggedStore {
    private static final int KEYS = 64;
    private static final int MOST_NUMBERS = 20;
    private static final int TRANSACTIONS = 3;

    private static final int BLOCKS = 96;
    private static final int HEADERS = 2;
    private static final int AREA_BLOCKS = 10;
    private static final int AREAS_BEGIN = 2;
    private static final int LOG_BEGIN = 22;

    private static final int FIRST_EPOCH = 1;
    // A header's second word is this times the area, and the count of the keys in it.
    private static final int AREA_UNIT = 64;
    // A log block's first word is this times the epoch, and the kind.
    private static final int EPOCH_UNIT = 4;
    private static final int KIND_NUMBER = 1;
    private static final int KIND_NONE = 2;
    private static final int KIND_COMMIT = 3;

    private final Disk disk = new Disk();
    private final Table latest = new Table();
    // By key, the version made by the last commit that wrote it: all that a conflict depends on.
    private final int[] writtenAt = new int[KEYS];
    private final Transaction[] transactions = new Transaction[TRANSACTIONS];
    private int latestVersion = 0;
    private int epoch = FIRST_EPOCH;
    private int area = 0;
    private int logNext = LOG_BEGIN;

    public LoggedStore() {
        for (int t = 0; t < TRANSACTIONS; t++) {
            transactions[t] = new Transaction();
        }
        disk.format();
    }

    public int begin(int t) throws IllegalStateException, IllegalArgumentException,
            UnsupportedOperationException {
        requireUp();
        requireTransaction(t);
        if (transactions[t].open) {
            throw new UnsupportedOperationException("the transaction is open");
        }
        transactions[t].start(latest, latestVersion);
        return latestVersion;
    }

    public int get(int t, int key) throws IllegalStateException, IllegalArgumentException,
            NoSuchElementException {
        requireUp();
        Table view = viewFor(t, key);
        requireNumber(view, key);
        return view.numbers[key];
    }

    public boolean put(int t, int key, int number) throws IllegalStateException,
            IllegalArgumentException {
        requireUp();
        boolean before = viewFor(t, key).has[key];
        transactions[t].writeNumber(key, number);
        return before;
    }

    public void remove(int t, int key) throws IllegalStateException, IllegalArgumentException,
            NoSuchElementException {
        requireUp();
        requireNumber(viewFor(t, key), key);
        transactions[t].writeNone(key);
    }

    public int next(int t, int key) throws IllegalStateException, IllegalArgumentException {
        requireUp();
        return viewFor(t, key).keyFrom(key);
    }

    public int drop(int t) throws IllegalStateException, IllegalArgumentException {
        requireUp();
        requireOpen(t);
        int forgotten = transactions[t].writes;
        transactions[t].open = false;
        return forgotten;
    }

    public int commit(int t) throws IllegalStateException, IllegalArgumentException,
            UnsupportedOperationException, ArithmeticException {
        requireUp();
        requireOpen(t);
        Transaction transaction = transactions[t];
        if (hasConflict(transaction)) {
            throw new UnsupportedOperationException("a later commit wrote one of the keys");
        }
        if (countWith(transaction) > MOST_NUMBERS) {
            throw new ArithmeticException("too many keys would have a number");
        }
        if (transaction.blocksToLog() > BLOCKS - logNext) {
            throw new ArithmeticException("the log has not blocks enough left");
        }
        if (transaction.writes > 0) {
            logWrites(transaction);
            doWrites(transaction);
        }
        transaction.open = false;
        return latestVersion;
    }

    public int checkpoint() throws IllegalStateException {
        requireUp();
        int otherArea = 1 - area;
        int nextEpoch = epoch + 1;
        writeArea(otherArea);
        disk.writeChecked(headerBlock(nextEpoch), nextEpoch, AREA_UNIT * otherArea + latest.size,
                latestVersion);
        // Only a header that is written whole makes these true: a lost write does not get here.
        area = otherArea;
        epoch = nextEpoch;
        logNext = LOG_BEGIN;
        return epoch;
    }

    public int number(int key) throws IllegalStateException, IllegalArgumentException,
            NoSuchElementException {
        requireUp();
        requireKey(key);
        requireNumber(latest, key);
        return latest.numbers[key];
    }

    public int count() throws IllegalStateException {
        requireUp();
        return latest.size;
    }

    public int version() throws IllegalStateException {
        requireUp();
        return latestVersion;
    }

    public int left() throws IllegalStateException {
        requireUp();
        return BLOCKS - logNext;
    }

    public void arm(int n, int w) {
        disk.limitWrites(n, w);
    }

    public boolean isDown() {
        return disk.down;
    }

    public int recover() {
        disk.powerUp();
        for (int t = 0; t < TRANSACTIONS; t++) {
            transactions[t].open = false;
        }
        Arrays.fill(writtenAt, 0);
        readCheckpoint(countingHeader());
        redoLog();
        return latestVersion;
    }

    public int word(int block, int i) {
        if (block < 0 || block >= BLOCKS || i < 0 || i >= Disk.WORDS) {
            return 0;
        }
        return disk.wordOf(block, i);
    }

    private void requireUp() {
        if (disk.down) {
            throw new IllegalStateException("the store is down");
        }
    }

    private static void requireTransaction(int t) {
        if (t < 0 || t >= TRANSACTIONS) {
            throw new IllegalArgumentException("there is no such transaction");
        }
    }

    private void requireOpen(int t) {
        requireTransaction(t);
        if (!transactions[t].open) {
            throw new IllegalArgumentException("the transaction is not open");
        }
    }

    private static void requireKey(int key) {
        if (!isKey(key)) {
            throw new IllegalArgumentException("there is no such key");
        }
    }

    private static void requireNumber(Table table, int key) {
        if (!table.has[key]) {
            throw new NoSuchElementException("the key has no number");
        }
    }

    private Table viewFor(int t, int key) {
        requireOpen(t);
        requireKey(key);
        return transactions[t].view;
    }

    private static boolean isKey(int key) {
        return key >= 0 && key < KEYS;
    }

    private boolean hasConflict(Transaction transaction) {
        for (int key = 0; key < KEYS; key++) {
            if (transaction.written[key] && writtenAt[key] > transaction.beganAt) {
                return true;
            }
        }
        return false;
    }

    private int countWith(Transaction transaction) {
        int size = latest.size;
        for (int key = 0; key < KEYS; key++) {
            if (transaction.written[key] && transaction.view.has[key] != latest.has[key]) {
                size += latest.has[key] ? -1 : 1;
            }
        }
        return size;
    }

    private void logWrites(Transaction transaction) {
        int block = logNext;
        for (int key = 0; key < KEYS; key++) {
            if (transaction.written[key]) {
                logWrite(block, transaction.view, key);
                block++;
            }
        }
        disk.writeChecked(block, EPOCH_UNIT * epoch + KIND_COMMIT, transaction.writes,
                latestVersion + 1);
        logNext = block + 1;
    }

    private void logWrite(int block, Table view, int key) {
        if (view.has[key]) {
            disk.writeChecked(block, EPOCH_UNIT * epoch + KIND_NUMBER, key, view.numbers[key]);
        } else {
            disk.writeChecked(block, EPOCH_UNIT * epoch + KIND_NONE, key, 0);
        }
    }

    private void doWrites(Transaction transaction) {
        latestVersion++;
        for (int key = 0; key < KEYS; key++) {
            if (transaction.written[key]) {
                latest.copyKey(transaction.view, key);
                writtenAt[key] = latestVersion;
            }
        }
    }

    private void writeArea(int toArea) {
        int begin = areaBegin(toArea);
        int first = latest.keyFrom(0);
        for (int i = 0; i < AREA_BLOCKS && first >= 0; i++) {
            int second = latest.keyFrom(first + 1);
            if (second >= 0) {
                disk.write(begin + i, first, latest.numbers[first], second,
                        latest.numbers[second]);
                first = latest.keyFrom(second + 1);
            } else {
                disk.write(begin + i, first, latest.numbers[first], 0, 0);
                first = -1;
            }
        }
    }

    private static int areaBegin(int ofArea) {
        return AREAS_BEGIN + AREA_BLOCKS * ofArea;
    }

    private static int headerBlock(int ofEpoch) {
        return Math.floorMod(ofEpoch + 1, HEADERS);
    }

    private int countingHeader() {
        if (!isHeader(1)) {
            return 0;
        }
        return isHeader(0) && disk.wordOf(0, 0) > disk.wordOf(1, 0) ? 0 : 1;
    }

    private boolean isHeader(int block) {
        return disk.isGood(block) && headerBlock(disk.wordOf(block, 0)) == block;
    }

    private void readCheckpoint(int header) {
        int areaAndSize = disk.wordOf(header, 1);
        epoch = disk.wordOf(header, 0);
        area = areaAndSize >= AREA_UNIT ? 1 : 0;
        latestVersion = disk.wordOf(header, 2);
        readArea(areaAndSize - AREA_UNIT * area);
    }

    private void readArea(int size) {
        int begin = areaBegin(area);
        latest.makeEmpty();
        for (int i = 0; i < size && i < MOST_NUMBERS; i++) {
            // Two pairs of key and number stand in a block.
            int block = begin + i / 2;
            int at = 2 * (i % 2);
            latest.setNumber(disk.wordOf(block, at), disk.wordOf(block, at + 1));
        }
    }

    private void redoLog() {
        logNext = LOG_BEGIN;
        for (int block = LOG_BEGIN; block < BLOCKS && isOfThisLog(block); block++) {
            if (kindOf(block) == KIND_COMMIT) {
                if (!endsCommit(block)) {
                    return;
                }
                redoWrites(logNext, block);
                latestVersion++;
                logNext = block + 1;
            }
        }
    }

    private boolean isOfThisLog(int block) {
        return disk.isGood(block) && Math.floorDiv(disk.wordOf(block, 0), EPOCH_UNIT) == epoch;
    }

    private int kindOf(int block) {
        return Math.floorMod(disk.wordOf(block, 0), EPOCH_UNIT);
    }

    private boolean endsCommit(int block) {
        return disk.wordOf(block, 1) == block - logNext
                && disk.wordOf(block, 2) == latestVersion + 1;
    }

    private void redoWrites(int from, int end) {
        for (int block = from; block < end; block++) {
            if (kindOf(block) == KIND_NUMBER) {
                latest.setNumber(disk.wordOf(block, 1), disk.wordOf(block, 2));
            } else {
                latest.setNone(disk.wordOf(block, 1));
            }
        }
    }

    /** Which keys have a number, and which; a key that is none is passed over. */
    private static final class Table {
        final boolean[] has = new boolean[KEYS];
        final int[] numbers = new int[KEYS];
        int size = 0;

        void makeEmpty() {
            for (int key = 0; key < KEYS; key++) {
                has[key] = false;
            }
            size = 0;
        }

        void copyAll(Table other) {
            for (int key = 0; key < KEYS; key++) {
                has[key] = other.has[key];
                numbers[key] = other.numbers[key];
            }
            size = other.size;
        }

        void copyKey(Table other, int key) {
            if (other.has[key]) {
                setNumber(key, other.numbers[key]);
            } else {
                setNone(key);
            }
        }

        void setNumber(int key, int number) {
            if (!isKey(key)) {
                return;
            }
            if (!has[key]) {
                has[key] = true;
                size++;
            }
            numbers[key] = number;
        }

        void setNone(int key) {
            if (isKey(key) && has[key]) {
                has[key] = false;
                size--;
            }
        }

        int keyFrom(int from) {
            for (int key = from; key < KEYS; key++) {
                if (has[key]) {
                    return key;
                }
            }
            return -1;
        }
    }

    /** What a transaction sees, its own writes in it, and for which keys it has some. */
    private static final class Transaction {
        final Table view = new Table();
        final boolean[] written = new boolean[KEYS];
        int writes = 0;
        int beganAt = 0;
        boolean open = false;

        void start(Table latest, int version) {
            view.copyAll(latest);
            for (int key = 0; key < KEYS; key++) {
                written[key] = false;
            }
            writes = 0;
            beganAt = version;
            open = true;
        }

        void writeNumber(int key, int number) {
            view.setNumber(key, number);
            markWritten(key);
        }

        void writeNone(int key) {
            view.setNone(key);
            markWritten(key);
        }

        private void markWritten(int key) {
            if (!written[key]) {
                written[key] = true;
                writes++;
            }
        }

        int blocksToLog() {
            return writes == 0 ? 0 : writes + 1;
        }
    }

    /** The blocks and the power; a write in which the power is lost throws. */
    private static final class Disk {
        static final int WORDS = 4;
        private static final int UNLIMITED = -1;

        private final int[] words = new int[BLOCKS * WORDS];
        private int writesLeft = UNLIMITED;
        private int wordsOfLost = 0;
        boolean down = false;

        void format() {
            int block = headerBlock(FIRST_EPOCH);
            setWords(block, WORDS, FIRST_EPOCH, 0, 0, checkOf(block, FIRST_EPOCH, 0, 0));
        }

        void limitWrites(int writes, int wordsOfNext) {
            writesLeft = writes < 0 ? UNLIMITED : writes;
            wordsOfLost = Math.max(0, Math.min(WORDS - 1, wordsOfNext));
        }

        void powerUp() {
            down = false;
            writesLeft = UNLIMITED;
        }

        int wordOf(int block, int i) {
            return words[WORDS * block + i];
        }

        boolean isGood(int block) {
            return wordOf(block, WORDS - 1)
                    == checkOf(block, wordOf(block, 0), wordOf(block, 1), wordOf(block, 2));
        }

        void writeChecked(int block, int a, int b, int c) {
            write(block, a, b, c, checkOf(block, a, b, c));
        }

        void write(int block, int a, int b, int c, int d) {
            if (writesLeft == 0) {
                down = true;
                setWords(block, wordsOfLost, a, b, c, d);
                throw new IllegalStateException("the power was lost");
            }
            if (writesLeft > 0) {
                writesLeft--;
            }
            setWords(block, WORDS, a, b, c, d);
        }

        private void setWords(int block, int howMany, int a, int b, int c, int d) {
            int at = WORDS * block;
            if (howMany > 0) {
                words[at] = a;
            }
            if (howMany > 1) {
                words[at + 1] = b;
            }
            if (howMany > 2) {
                words[at + 2] = c;
            }
            if (howMany > 3) {
                words[at + 3] = d;
            }
        }

        private static int checkOf(int block, int a, int b, int c) {
            return (65536 * a + b) ^ c * 1664525 ^ 1013904223 + 97 * block;
        }
    }
}
