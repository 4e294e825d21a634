import java.util.Arrays;
import java.util.NoSuchElementException;

/** What the tests share: ways to fill an object, and to read all that can be seen of it. */
abstract class Steps {
    static final Check CHECK = new Check();
    static final Class<?> ARGUMENT = IllegalArgumentException.class;
    static final Class<?> STATE = IllegalStateException.class;
    /** The face throws it for NO ROOM, and for the SCORE of a RESULT of find. */
    static final Class<?> UNSUPPORTED = UnsupportedOperationException.class;
    static final Class<?> NONE = NoSuchElementException.class;
    static final Class<?> INDEX = IndexOutOfBoundsException.class;
    static final int[] FAR = {Integer.MIN_VALUE, Integer.MAX_VALUE};

    static int add(IndexBuilder x, int... words) {
        openWith(x, words);
        return x.close();
    }

    static void openWith(IndexBuilder x, int... words) {
        for (int w : words) {
            x.word(w);
        }
    }

    /** A DOCUMENT of so many WORDS, all different: five bytes for each in a RUN of its own, and one behind all. */
    static int addRow(IndexBuilder x, int from, int many) {
        openRow(x, from, many);
        return x.close();
    }

    static void openRow(IndexBuilder x, int from, int many) {
        for (int w = from; w < from + many; w++) {
            x.word(w);
        }
    }

    static void addEmpty(IndexBuilder x, int upTo) {
        while (x.count(0) < upTo) {
            x.close();
        }
    }

    static void dropAll(IndexBuilder x, int... documents) {
        for (int d : documents) {
            x.drop(d);
        }
    }

    /** Two RUNS of LEVEL 1, with 3 and 2 of the 8 BLOCKS, whose MERGE has NO ROOM. */
    static IndexBuilder stuck() {
        IndexBuilder x = new IndexBuilder(20, 2, 8);
        addRow(x, 0, 4);
        x.flush();
        addRow(x, 10, 4);
        x.flush();
        addRow(x, 20, 2);
        x.flush();
        addRow(x, 30, 3);
        x.flush();
        row("stuck", levels(x), 1, 1);
        CHECK.due("no room", x.count(8), 1);
        return x;
    }

    /** One RUN of 7 of the 8 BLOCKS, and THE BUFFER full with what needs 7 too. */
    static IndexBuilder full() {
        IndexBuilder x = new IndexBuilder(20, 2, 8);
        addRow(x, 0, 20);
        x.flush();
        addRow(x, 20, 20);
        return x;
    }

    static void row(String what, int[] got, int... want) {
        CHECK.due(what, Arrays.toString(got), Arrays.toString(want));
    }

    static int[] results(IndexBuilder x, int many) {
        int[] all = new int[many];
        for (int k = 0; k < many; k++) {
            all[k] = x.result(k);
        }
        CHECK.throwing("result behind the last", NONE, () -> x.result(many));
        return all;
    }

    static int[] bytes(IndexBuilder x, int from, int many) {
        int[] all = new int[many];
        for (int i = 0; i < many; i++) {
            all[i] = x.byteOf((from + i) / 16, (from + i) % 16);
        }
        return all;
    }

    static int[] levels(IndexBuilder x) {
        int[] all = new int[x.count(3)];
        for (int r = 0; r < all.length; r++) {
            all[r] = x.run(r, 0);
        }
        return all;
    }

    static int[] counts(IndexBuilder x) {
        int[] all = new int[10];
        for (int what = 0; what < 10; what++) {
            all[what] = x.count(what);
        }
        return all;
    }

    /** All that can be seen of an object with 8 BLOCKS without a question; some 160 calls of the 512. */
    static String state(IndexBuilder x) {
        StringBuilder all = new StringBuilder();
        all.append(Arrays.toString(counts(x)));
        for (int r = 0; r < x.count(3); r++) {
            for (int what = 0; what <= 3; what++) {
                all.append(' ').append(x.run(r, what));
            }
        }
        all.append(Arrays.toString(bytes(x, 0, 128)));
        String document = Check.outcome(() -> x.result(0));
        for (int k = 0; k < 40 && !document.equals(NONE.getSimpleName()); k++) {
            int at = k;
            all.append(' ').append(document).append(' ').append(Check.outcome(() -> x.score(at)));
            document = Check.outcome(() -> x.result(at + 1));
        }
        return all.toString();
    }

    /** Each of these calls throws this, and all of them together change nothing that can be seen. */
    static void refused(IndexBuilder x, Class<?> want, Check.Call... calls) {
        String before = state(x);
        for (int i = 0; i < calls.length; i++) {
            CHECK.throwing("call " + i, want, calls[i]);
        }
        CHECK.due("the state behind refused calls", state(x), before);
    }
}
