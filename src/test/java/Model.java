import java.util.ArrayList;
import java.util.List;
import java.util.Map;
import java.util.NoSuchElementException;
import java.util.TreeMap;

/**
 * A second reading of the document, plain and wasteful: every version is kept as a whole map, with
 * the keys that its commit wrote. A removal is a null in a transaction's writes.
 */
final class Model {
    private final int[][] disk = new int[96][4];
    private final List<TreeMap<Integer, Integer>> versions = new ArrayList<>();
    private final List<TreeMap<Integer, Integer>> commits = new ArrayList<>();
    private final List<TreeMap<Integer, Integer>> writes = new ArrayList<>();
    private final int[] began = new int[3];
    private int epoch = 1;
    private int area = 0;
    private int logged = 0;
    private int armed = -1;
    private int torn = 0;
    private boolean down = false;
    // Why the last recover() went no further through the log.
    private String ended = "";

    Model() {
        disk[0] = withCheck(0, 1, 0, 0);
        versions.add(new TreeMap<>());
        commits.add(new TreeMap<>());
        for (int t = 0; t < 3; t++) {
            writes.add(null);
        }
    }

    int begin(int t) {
        up();
        argument(t >= 0 && t <= 2);
        if (writes.get(t) != null) {
            throw new UnsupportedOperationException();
        }
        writes.set(t, new TreeMap<>());
        began[t] = now();
        return now();
    }

    int get(int t, int key) {
        up();
        open(t);
        argument(key >= 0 && key <= 63);
        Integer number = seen(t).get(key);
        if (number == null) {
            throw new NoSuchElementException();
        }
        return number;
    }

    boolean put(int t, int key, int number) {
        up();
        open(t);
        argument(key >= 0 && key <= 63);
        boolean before = seen(t).containsKey(key);
        writes.get(t).put(key, number);
        return before;
    }

    void remove(int t, int key) {
        get(t, key);
        writes.get(t).put(key, null);
    }

    int next(int t, int key) {
        up();
        open(t);
        argument(key >= 0 && key <= 63);
        Integer found = seen(t).ceilingKey(key);
        return found == null ? -1 : found;
    }

    int drop(int t) {
        up();
        open(t);
        int size = writes.get(t).size();
        writes.set(t, null);
        return size;
    }

    int commit(int t) {
        up();
        open(t);
        TreeMap<Integer, Integer> own = writes.get(t);
        for (int v = began[t] + 1; v <= now(); v++) {
            for (int key : own.keySet()) {
                if (commits.get(v) != null && commits.get(v).containsKey(key)) {
                    throw new UnsupportedOperationException();
                }
            }
        }
        TreeMap<Integer, Integer> made = with(versions.get(now()), own);
        if (made.size() > 20 || !own.isEmpty() && own.size() + 1 > left()) {
            throw new ArithmeticException();
        }
        if (!own.isEmpty()) {
            log(own);
            versions.add(made);
            commits.add(own);
        }
        writes.set(t, null);
        return now();
    }

    private void log(TreeMap<Integer, Integer> own) {
        int block = 22 + logged;
        for (Map.Entry<Integer, Integer> one : own.entrySet()) {
            boolean none = one.getValue() == null;
            int kind = none ? 2 : 1;
            write(block, withCheck(block, 4 * epoch + kind, one.getKey(), none ? 0 : one.getValue()));
            block++;
        }
        write(block, withCheck(block, 4 * epoch + 3, own.size(), now() + 1));
        logged += own.size() + 1;
    }

    int checkpoint() {
        up();
        int other = area == 0 ? 1 : 0;
        List<Integer> pairs = new ArrayList<>();
        versions.get(now()).forEach((key, number) -> {
            pairs.add(key);
            pairs.add(number);
        });
        int size = pairs.size() / 2;
        while (pairs.size() % 4 != 0) {
            pairs.add(0);
        }
        for (int i = 0; i < pairs.size(); i += 4) {
            int[] block = {pairs.get(i), pairs.get(i + 1), pairs.get(i + 2), pairs.get(i + 3)};
            write((other == 0 ? 2 : 12) + i / 4, block);
        }
        int header = (epoch + 2) % 2;
        write(header, withCheck(header, epoch + 1, 64 * other + size, now()));
        area = other;
        epoch++;
        logged = 0;
        return epoch;
    }

    int number(int key) {
        up();
        argument(key >= 0 && key <= 63);
        if (!versions.get(now()).containsKey(key)) {
            throw new NoSuchElementException();
        }
        return versions.get(now()).get(key);
    }

    int count() {
        up();
        return versions.get(now()).size();
    }

    int version() {
        up();
        return now();
    }

    int left() {
        up();
        return 74 - logged;
    }

    void arm(int n, int w) {
        armed = n < 0 ? -1 : n;
        torn = w < 0 ? 0 : w > 3 ? 3 : w;
    }

    boolean isDown() {
        return down;
    }

    int recover() {
        down = false;
        armed = -1;
        for (int t = 0; t < 3; t++) {
            writes.set(t, null);
        }
        int header = -1;
        for (int k = 0; k < 2; k++) {
            if (good(k) && (disk[k][0] + 1) % 2 == k
                    && (header < 0 || disk[k][0] > disk[header][0])) {
                header = k;
            }
        }
        TreeMap<Integer, Integer> store = new TreeMap<>();
        epoch = disk[header][0];
        area = disk[header][1] / 64;
        for (int i = 0; i < disk[header][1] % 64; i++) {
            int[] block = disk[(area == 0 ? 2 : 12) + i / 2];
            store.put(block[i % 2 * 2], block[i % 2 * 2 + 1]);
        }
        replay(store, disk[header][2]);
        return now();
    }

    private void replay(TreeMap<Integer, Integer> store, int first) {
        int version = first;
        logged = 0;
        TreeMap<Integer, Integer> last = store;
        List<int[]> kept = new ArrayList<>();
        ended = "last";
        for (int k = 22; k < 96; k++) {
            String wrong = wrongWith(k, kept.size(), version);
            if (!wrong.isEmpty()) {
                ended = wrong;
                break;
            }
            kept.add(disk[k]);
            if (disk[k][0] % 4 == 3) {
                last = with(last, writesOf(kept));
                kept.clear();
                version++;
                logged = k - 21;
            }
        }
        forgetHistory(last, version);
    }

    private String wrongWith(int k, int kept, int version) {
        if (!good(k)) {
            return "good";
        }
        if (disk[k][0] / 4 != epoch) {
            return "epoch";
        }
        if (disk[k][0] % 4 == 3 && disk[k][1] != kept) {
            return "number";
        }
        return disk[k][0] % 4 == 3 && disk[k][2] != version + 1 ? "version" : "";
    }

    private static TreeMap<Integer, Integer> writesOf(List<int[]> blocks) {
        TreeMap<Integer, Integer> own = new TreeMap<>();
        for (int[] block : blocks) {
            if (block[0] % 4 == 1) {
                own.put(block[1], block[2]);
            } else if (block[0] % 4 == 2) {
                own.put(block[1], null);
            }
        }
        return own;
    }

    String ended() {
        return ended;
    }

    int epoch() {
        return epoch;
    }

    private void forgetHistory(TreeMap<Integer, Integer> last, int version) {
        versions.clear();
        commits.clear();
        for (int v = 0; v < version; v++) {
            versions.add(null);
            commits.add(null);
        }
        versions.add(last);
        commits.add(null);
    }

    int word(int block, int i) {
        return block >= 0 && block < 96 && i >= 0 && i < 4 ? disk[block][i] : 0;
    }

    private int now() {
        return versions.size() - 1;
    }

    private TreeMap<Integer, Integer> seen(int t) {
        return with(versions.get(began[t]), writes.get(t));
    }

    private static TreeMap<Integer, Integer> with(TreeMap<Integer, Integer> store,
            TreeMap<Integer, Integer> own) {
        TreeMap<Integer, Integer> made = new TreeMap<>(store);
        made.putAll(own);
        made.values().removeIf(number -> number == null);
        return made;
    }

    private void write(int block, int[] words) {
        int got = armed == 0 ? torn : 4;
        System.arraycopy(words, 0, disk[block], 0, got);
        if (got < 4) {
            down = true;
            throw new IllegalStateException();
        }
        armed = armed < 0 ? -1 : armed - 1;
    }

    private boolean good(int k) {
        return disk[k][3] == withCheck(k, disk[k][0], disk[k][1], disk[k][2])[3];
    }

    private static int[] withCheck(int k, int a, int b, int c) {
        return new int[] {a, b, c, Check.checkWord(k, a, b, c)};
    }

    private void up() {
        if (down) {
            throw new IllegalStateException();
        }
    }

    private void open(int t) {
        argument(t >= 0 && t <= 2);
        argument(writes.get(t) != null);
    }

    private static void argument(boolean right) {
        if (!right) {
            throw new IllegalArgumentException();
        }
    }
}
