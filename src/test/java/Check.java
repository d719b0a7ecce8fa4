import java.util.NoSuchElementException;

/** What the tests share: comparing answers, and ending with exit code 1 if one was wrong. */
final class Check {
    static final Class<?> STATE = IllegalStateException.class;
    static final Class<?> ARGUMENT = IllegalArgumentException.class;
    static final Class<?> UNSUPPORTED = UnsupportedOperationException.class;
    static final Class<?> NONE = NoSuchElementException.class;
    static final Class<?> ARITHMETIC = ArithmeticException.class;

    private static int wrong = 0;
    private static int made = 0;

    private Check() {
    }

    static void due(String what, Object got, Object want) {
        made++;
        if (!got.equals(want)) {
            wrong++;
            System.out.println(what + " answered " + got + ", due is " + want);
        }
    }

    static void thrown(String what, Class<?> want, Runnable call) {
        made++;
        Class<?> got = exceptionOf(call);
        if (got != want) {
            wrong++;
            System.out.println(what + " threw " + got + ", due is " + want);
        }
    }

    /** The class of what a call throws, null when it throws nothing. */
    static Class<?> exceptionOf(Runnable call) {
        try {
            call.run();
            return null;
        } catch (RuntimeException e) {
            return e.getClass();
        }
    }

    static int checkWord(int block, int a, int b, int c) {
        int left = 65536 * a + b;
        int right = 1013904223 + 97 * block;
        return left ^ (c * 1664525) ^ right;
    }

    static void block(LoggedStore x, String what, int block, int a, int b, int c, int d) {
        int[] want = {a, b, c, d};
        for (int i = 0; i < 4; i++) {
            due(what + ": word(" + block + ", " + i + ")", x.word(block, i), want[i]);
        }
    }

    static void checkedBlock(LoggedStore x, String what, int block, int a, int b, int c) {
        block(x, what, block, a, b, c, checkWord(block, a, b, c));
    }

    /** Commits key and number pairs in transaction 0, which is not open. */
    static int commitPairs(LoggedStore x, int... pairs) {
        x.begin(0);
        for (int i = 0; i < pairs.length; i += 2) {
            x.put(0, pairs[i], pairs[i + 1]);
        }
        return x.commit(0);
    }

    /** Commits numbers for many keys from 'first' on in transaction 0. */
    static int commitRange(LoggedStore x, int first, int howMany) {
        x.begin(0);
        for (int i = 0; i < howMany; i++) {
            x.put(0, first + i, 1000 + first + i);
        }
        return x.commit(0);
    }

    static void end() {
        System.out.println(made + " answers, " + wrong + " of them wrong");
        if (made == 0 || wrong != 0) {
            System.exit(1);
        }
    }
}
