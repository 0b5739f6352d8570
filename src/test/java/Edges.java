import java.util.Set;
import java.util.TreeSet;
import java.util.function.Consumer;
import java.util.function.LongSupplier;

/**
 * Tests of one boundary each: a test names its promise and the sentence of the document that it
 * holds the class to, and has an object of its own.
 */
final class Edges {
    static final int NONE = -1, UNKNOWN = -101, OUTSIDE = -102, STATE = -103, FULL = -104;
    static final int LOW = Integer.MIN_VALUE, HIGH = Integer.MAX_VALUE;
    /** Numbers below 0; those that would be 0 to 7 if they wrapped around among them. */
    static final int[] BELOW = {-1, -2, -8, -32, -64, -256, -HIGH, LOW};

    private final Checks checks;
    private final int first;
    private final int last;
    private final Set<Integer> tested = new TreeSet<>();
    private final Set<String> sentences = new TreeSet<>();
    private String test = "";

    Edges(String name, int first, int last) {
        this.checks = new Checks(name);
        this.first = first;
        this.last = last;
    }

    void test(int promise, String sentence, Consumer<LinesDownFilm> calls) {
        test = "promise " + promise + " (" + sentence + "): ";
        tested.add(promise);
        checks.hold(test + "only one test is called so", sentences.add(test));
        calls.accept(new LinesDownFilm());
    }

    void due(String what, long got, long want) {
        checks.due(test + what, got, want);
    }

    /** The call answers its refusal, and nothing is changed by it. */
    void refused(LinesDownFilm x, String call, int refusal, LongSupplier answer) {
        long before = x.digest();
        due(call, answer.getAsLong(), refusal);
        due(call + " changes nothing", x.digest(), before);
    }

    void close() {
        for (int promise = first; promise <= last; promise++) {
            checks.hold("promise " + promise + " has a test", tested.contains(promise));
        }
        checks.hold("no test of another promise", tested.size() == last - first + 1);
        checks.close();
    }

    static void paint(LinesDownFilm x, int print, int side, int sort, int... pictures) {
        for (int picture : pictures) {
            x.mark(print, picture, side, sort, true);
        }
    }

    /** The pictures of a print with a mark on a side, as bits: what = 1 black, 2 white. */
    static long marked(LinesDownFilm x, int print, int side, int what) {
        int n = x.length(print);
        long marked = 0;
        for (int i = 0; i < n; i++) {
            marked |= (long) (x.picture(print, i, what) >> side & 1) << i;
        }
        return marked;
    }

    static long bits(int... places) {
        long bits = 0;
        for (int place : places) {
            bits |= 1L << place;
        }
        return bits;
    }

    /** The numbers from one up to where the wraps end that a shift or a byte would hide. */
    static int[] above(int least) {
        return new int[] {least, least + 1, 32 + least, 64 + least, 256 + least, 65536 + least, HIGH - 1, HIGH};
    }

    static int[] both(int[] some, int[] others) {
        int[] all = new int[some.length + others.length];
        System.arraycopy(some, 0, all, 0, some.length);
        System.arraycopy(others, 0, all, some.length, others.length);
        return all;
    }

    /** Numbers below 0, and from one on, that are not let. */
    static int[] around(int least) {
        return both(BELOW, above(least));
    }
}
