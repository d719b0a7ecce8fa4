/** Promises 1 to 7: a new object, begin, get, put, remove, next and drop. */
public final class TransactionTest {
    private static final int[] NO_TRANSACTION = {-1, 3, Integer.MIN_VALUE, Integer.MAX_VALUE};
    private static final int[] NO_KEY = {-1, 64, Integer.MIN_VALUE, Integer.MAX_VALUE};

    public static void main(String[] args) {
        newObject();
        newDisk();
        beginAnswers();
        getSees();
        putAnswers();
        removeWrites();
        nextFinds();
        dropForgets();
        wrongArguments();
        snapshotsStay();
        Check.end();
    }

    private static void newObject() {
        LoggedStore x = new LoggedStore();
        Check.due("new: count()", x.count(), 0);
        Check.due("new: version()", x.version(), 0);
        Check.due("new: left()", x.left(), 74);
        Check.due("new: isDown()", x.isDown(), false);
        for (int t = 0; t < 3; t++) {
            int it = t;
            Check.thrown("new: drop(" + t + ")", Check.ARGUMENT, () -> x.drop(it));
        }
        for (int key = 0; key < 64; key++) {
            int it = key;
            Check.thrown("new: number(" + key + ")", Check.NONE, () -> x.number(it));
        }
        Check.due("new: not armed", Check.commitRange(x, 0, 20), 1);
        Check.due("new: checkpoint()", x.checkpoint(), 2);
        Check.due("objects share nothing", new LoggedStore().version(), 0);
    }

    private static void newDisk() {
        LoggedStore x = new LoggedStore();
        Check.checkedBlock(x, "new header", 0, 1, 0, 0);
        for (int block = 1; block < 96; block++) {
            Check.block(x, "new disk", block, 0, 0, 0, 0);
        }
    }

    private static void beginAnswers() {
        LoggedStore x = new LoggedStore();
        Check.due("begin(2) at 0", x.begin(2), 0);
        Check.thrown("begin(2) again", Check.UNSUPPORTED, () -> x.begin(2));
        Check.due("commit", Check.commitPairs(x, 1, 1), 1);
        Check.due("commit", Check.commitPairs(x, 1, 2), 2);
        Check.due("begin(0) at 2", x.begin(0), 2);
        Check.due("begin(1) at 2", x.begin(1), 2);
        Check.thrown("begin(0) again", Check.UNSUPPORTED, () -> x.begin(0));
        for (int t : NO_TRANSACTION) {
            Check.thrown("begin(" + t + ")", Check.ARGUMENT, () -> x.begin(t));
        }
        x.put(1, 7, 70);
        x.drop(1);
        x.begin(1);
        Check.due("a new beginning has no writes", x.drop(1), 0);
    }

    private static void getSees() {
        LoggedStore x = new LoggedStore();
        Check.commitPairs(x, 0, Integer.MIN_VALUE, 63, Integer.MAX_VALUE, 5, 0);
        x.begin(1);
        Check.due("get of key 0", x.get(1, 0), Integer.MIN_VALUE);
        Check.due("get of key 63", x.get(1, 63), Integer.MAX_VALUE);
        Check.due("get of the number 0", x.get(1, 5), 0);
        Check.thrown("get of none", Check.NONE, () -> x.get(1, 4));
        x.put(1, 4, -4);
        Check.due("get of an own write", x.get(1, 4), -4);
        x.begin(2);
        Check.thrown("get of another's write", Check.NONE, () -> x.get(2, 4));
        x.remove(1, 63);
        Check.thrown("get of what was removed", Check.NONE, () -> x.get(1, 63));
        Check.due("get of what another removed", x.get(2, 63), Integer.MAX_VALUE);
    }

    private static void putAnswers() {
        LoggedStore x = new LoggedStore();
        Check.commitPairs(x, 9, 90);
        x.begin(0);
        Check.due("put on a number of the store", x.put(0, 9, 91), true);
        Check.due("put on none", x.put(0, 63, 1), false);
        Check.due("put on an own write", x.put(0, 63, 2), true);
        x.remove(0, 63);
        Check.due("put on an own removal", x.put(0, 63, 3), false);
        Check.due("get after puts", x.get(0, 63), 3);
        Check.due("the store is as before", x.number(9), 90);
        Check.due("writes count by keys", x.drop(0), 2);
    }

    private static void removeWrites() {
        LoggedStore x = new LoggedStore();
        Check.commitPairs(x, 0, 1, 63, 2);
        x.begin(0);
        x.remove(0, 0);
        Check.thrown("remove twice", Check.NONE, () -> x.remove(0, 0));
        Check.thrown("remove of none", Check.NONE, () -> x.remove(0, 1));
        x.put(0, 2, 2);
        x.remove(0, 2);
        Check.due("the store is as before", x.number(0), 1);
        Check.due("a removal that took back a put is a write too", x.drop(0), 2);
    }

    private static void nextFinds() {
        LoggedStore x = new LoggedStore();
        Check.commitPairs(x, 0, 1, 10, 2, 63, 3);
        x.begin(0);
        Check.due("next(0, 0)", x.next(0, 0), 0);
        Check.due("next(0, 1)", x.next(0, 1), 10);
        Check.due("next(0, 10)", x.next(0, 10), 10);
        Check.due("next(0, 11)", x.next(0, 11), 63);
        Check.due("next(0, 63)", x.next(0, 63), 63);
        x.remove(0, 63);
        Check.due("next behind a removal", x.next(0, 11), -1);
        Check.due("next(0, 63) of none", x.next(0, 63), -1);
        x.put(0, 30, 30);
        Check.due("next of an own write", x.next(0, 11), 30);
        x.begin(1);
        Check.due("next of another", x.next(1, 11), 63);
    }

    private static void dropForgets() {
        LoggedStore x = new LoggedStore();
        x.begin(0);
        Check.due("drop without writes", x.drop(0), 0);
        Check.thrown("drop of a closed one", Check.ARGUMENT, () -> x.drop(0));
        x.begin(0);
        for (int key = 0; key < 64; key++) {
            x.put(0, key, key);
        }
        Check.due("drop of 64 writes", x.drop(0), 64);
        Check.due("nothing was done", x.count(), 0);
        Check.due("nothing was logged", x.word(22, 0), 0);
        x.begin(0);
        Check.due("nothing is seen", x.next(0, 0), -1);
        Check.due("commit without writes", x.commit(0), 0);
        for (int t : NO_TRANSACTION) {
            Check.thrown("drop(" + t + ")", Check.ARGUMENT, () -> x.drop(t));
        }
    }

    private static void wrongArguments() {
        LoggedStore x = new LoggedStore();
        x.begin(0);
        x.put(0, 1, 1);
        for (int key : NO_KEY) {
            Check.thrown("get(0, " + key + ")", Check.ARGUMENT, () -> x.get(0, key));
            Check.thrown("put(0, " + key + ", 1)", Check.ARGUMENT, () -> x.put(0, key, 1));
            Check.thrown("remove(0, " + key + ")", Check.ARGUMENT, () -> x.remove(0, key));
            Check.thrown("next(0, " + key + ")", Check.ARGUMENT, () -> x.next(0, key));
        }
        int[] none = {-1, 3, Integer.MIN_VALUE, Integer.MAX_VALUE, 1, 2};
        for (int t : none) {
            Check.thrown("get(" + t + ", 1)", Check.ARGUMENT, () -> x.get(t, 1));
            Check.thrown("put(" + t + ", 1, 1)", Check.ARGUMENT, () -> x.put(t, 1, 1));
            Check.thrown("remove(" + t + ", 1)", Check.ARGUMENT, () -> x.remove(t, 1));
            Check.thrown("next(" + t + ", 1)", Check.ARGUMENT, () -> x.next(t, 1));
        }
        Check.due("what threw changed nothing", x.drop(0), 1);
    }

    private static void snapshotsStay() {
        LoggedStore x = new LoggedStore();
        Check.commitPairs(x, 1, 10, 2, 20);
        x.begin(1);
        Check.commitPairs(x, 1, 11, 3, 30);
        x.begin(2);
        x.begin(0);
        x.remove(0, 2);
        x.commit(0);
        x.checkpoint();
        Check.due("transaction 1 sees 10", x.get(1, 1), 10);
        Check.due("transaction 1 sees 20", x.get(1, 2), 20);
        Check.thrown("transaction 1 sees no 30", Check.NONE, () -> x.get(1, 3));
        Check.due("transaction 2 sees 11", x.get(2, 1), 11);
        Check.due("transaction 2 sees 20", x.get(2, 2), 20);
        Check.due("transaction 2 sees 30", x.get(2, 3), 30);
        Check.due("put answers what it saw", x.put(1, 3, 1), false);
        Check.due("next answers what it saw", x.next(2, 2), 2);
        x.remove(1, 2);
        Check.due("transaction 2 still sees 20", x.get(2, 2), 20);
    }
}
