import java.util.Arrays;
import java.util.function.Supplier;

/**
 * Every refusal of every call: arguments that are let and arguments that are not, in all ways
 * together, on objects with nothing, with something and with all there may be. Due is the first
 * refusal that the call tells, and that nothing has changed, the image included.
 */
public final class RefusalTests {
    private static final int UNKNOWN = Edges.UNKNOWN, OUTSIDE = Edges.OUTSIDE, STATE = Edges.STATE, FULL = Edges.FULL;
    private static final int NEVER = 0;
    /** An object is used for 512 calls at most; making one and comparing it takes some of them. */
    private static final int REFUSALS = 150;
    private static final Checks CHECKS = new Checks("RefusalTests");

    private interface Call {
        long on(LinesDownFilm x, int[] arguments);
    }

    /** An argument in its place among the refusals: numbers that are let, and those that are not. */
    private record Argument(int refusal, int[] let, int[] not) {
        int size() {
            return let.length + not.length;
        }

        int number(int i) {
            return i < let.length ? let[i] : not[i - let.length];
        }

        boolean isLet(int i) {
            return i < let.length;
        }
    }

    private final String state;
    private final Supplier<LinesDownFilm> maker;
    private final int prints;
    private final int machines;
    private final boolean isFull;
    private LinesDownFilm x;
    private LinesDownFilm twin;
    private long digest;
    private int refusals;

    private RefusalTests(String state, Supplier<LinesDownFilm> maker, int prints, int machines, boolean isFull) {
        this.state = state;
        this.maker = maker;
        this.prints = prints;
        this.machines = machines;
        this.isFull = isFull;
    }

    public static void main(String[] args) {
        new RefusalTests("nothing", RefusalTests::nothing, 0, 0, false).all();
        new RefusalTests("something", RefusalTests::something, 2, 2, false).all();
        new RefusalTests("all", RefusalTests::everything, 6, 6, true).all();
        CHECKS.close();
    }

    private static LinesDownFilm nothing() {
        LinesDownFilm x = new LinesDownFilm();
        x.image();
        return x;
    }

    /** Two prints of 12 pictures, two machines of two parts; the image has other marks and traces. */
    private static LinesDownFilm something() {
        LinesDownFilm x = new LinesDownFilm();
        Typing.machine(x, "r0o3p1,g1");
        Typing.machine(x, "t2o2p0,w3o2p1");
        x.print(12);
        x.run(0, 0, false);
        x.copy(0);
        x.trace(5, 6);
        x.image();
        x.trace(0, 3);
        x.run(1, 1, true);
        x.mark(0, 3, 7, 1, true);
        Typing.type(x, "r0o");
        return x;
    }

    /** Six prints of 12 pictures, six machines of two parts, four traces, 40 letters, and no tree() more. */
    private static LinesDownFilm everything() {
        LinesDownFilm x = new LinesDownFilm();
        for (int i = 0; i < 6; i++) {
            Typing.machine(x, "g" + i + ",t" + (i + 2) + "o" + (2 + i) + "p1");
        }
        x.print(12);
        for (int i = 0; i < 5; i++) {
            x.run(i, i, i % 2 == 0);
            x.copy(i);
        }
        x.image();
        for (int i = 0; i < 4; i++) {
            x.trace(i, 19 - i);
            x.mark(i, 11 - i, 7, 0, true);
        }
        for (int i = 0; i < 12; i++) {
            x.tree(i, 0);
        }
        Typing.type(x, "a".repeat(40));
        return x;
    }

    private void all() {
        start();
        machineCalls();
        printCalls();
        markCalls();
        moreMarkCalls();
        copyCalls();
        stop();
    }

    private void start() {
        x = maker.get();
        twin = maker.get();
        digest = x.digest();
        refusals = 0;
        CHECKS.due(state + ": its twin", twin.digest(), digest);
    }

    /** What was refused has left no trace: the object goes on like its twin that was never asked. */
    private void stop() {
        CHECKS.due(state + ": fault", x.fault(), twin.fault());
        CHECKS.due(state + ": tree", x.tree(3, 0), twin.tree(3, 0));
        CHECKS.due(state + ": letters", x.letters(Typing.word("g0")), twin.letters(Typing.word("g0")));
        CHECKS.due(state + ": digest", x.digest(), twin.digest());
        CHECKS.due(state + ": restore", x.restore(), twin.restore());
        CHECKS.due(state + ": digest of the image", x.digest(), twin.digest());
        CHECKS.due(state + ": blank", x.blank(), twin.blank());
        CHECKS.due(state + ": a new print", x.print(20), twin.print(20));
        CHECKS.due(state + ": a new trace", x.trace(1, 2), twin.trace(1, 2));
        CHECKS.due(state + ": a new machine", Typing.machine(x, "w0o1p9"), Typing.machine(twin, "w0o1p9"));
        CHECKS.due(state + ": digest of all", x.digest(), twin.digest());
    }

    private static int[] numbers(int... numbers) {
        return numbers;
    }

    private static Argument argument(int refusal, int low, int high) {
        return new Argument(refusal, numbers(low, high), numbers(low - 1, high + 1));
    }

    /** The number of one of the first so many things. */
    private static Argument known(int many) {
        return many == 0 ? new Argument(UNKNOWN, numbers(), numbers(-1, 0, 1, 6)) : argument(UNKNOWN, 0, many - 1);
    }

    private static Argument outside(int low, int high) {
        return argument(OUTSIDE, low, high);
    }

    /** All ways of the arguments together; last is what is due where all of them are let, if that is a refusal. */
    private void each(String name, int last, Call call, Argument... arguments) {
        int ways = 1;
        for (Argument a : arguments) {
            ways *= a.size();
        }
        for (int way = 0; way < ways; way++) {
            int[] numbers = new int[arguments.length];
            int due = last;
            int rest = way;
            for (int i = arguments.length - 1; i >= 0; i--) {
                int which = rest % arguments[i].size();
                rest /= arguments[i].size();
                numbers[i] = arguments[i].number(which);
                due = arguments[i].isLet(which) ? due : arguments[i].refusal();
            }
            if (due != NEVER) {
                refused(state + ": " + name + " " + Arrays.toString(numbers), due, call.on(x, numbers));
            }
        }
    }

    private void refused(String what, int due, long answer) {
        CHECKS.due(what, answer, due);
        CHECKS.due(what + " changes nothing", x.digest(), digest);
        refusals++;
        if (refusals == REFUSALS) {
            stop();
            start();
        }
    }

    private void machineCalls() {
        long[] bad = {127, -1, Long.MIN_VALUE, 97L << 8, 1L << 56, 97 | 97L << 16};
        each("letters", NEVER, (o, a) -> o.letters(bad[a[0]]), new Argument(OUTSIDE, numbers(), numbers(0, 1, 2, 3, 4, 5)));
        each("machine", STATE, (o, a) -> o.machine());
        each("part", NEVER, (o, a) -> o.part(a[0], a[1], a[2]), known(machines), known(2), outside(0, 3));
        each("as", NEVER, (o, a) -> o.as(a[0], a[1], a[2]), known(machines), known(2), outside(0, 4));
        if (isFull) {
            each("letters above 40", FULL, (o, a) -> o.letters(Typing.word("a".repeat(a[0]))),
                new Argument(OUTSIDE, numbers(1, 2, 8), numbers()));
        }
        each("trace", isFull ? FULL : NEVER, (o, a) -> o.trace(a[0], a[1]), outside(0, 7), outside(2, 19));
    }

    private void printCalls() {
        // a and b of 12 pictures, by pairs
        int[][] pairs = {{0, 0}, {11, 11}, {0, 10}, {1, 11}, {-1, 0}, {0, 12}, {12, 12}, {5, 4}, {11, 0}, {0, 11},
            {-1, 12}, {Edges.LOW, Edges.HIGH}};
        Argument taken = new Argument(OUTSIDE, numbers(0, 1, 2, 3), numbers(4, 5, 6, 7, 8, 9, 10, 11));
        each("print", isFull ? FULL : NEVER, (o, a) -> o.print(a[0]), outside(1, 48));
        each("run", NEVER, (o, a) -> o.run(a[0], a[1], false), known(prints), known(machines));
        each("run back", NEVER, (o, a) -> o.run(a[0], a[1], true), known(prints), known(machines));
        each("mend", NEVER, (o, a) -> o.mend(a[0], pairs[a[1]][0], pairs[a[1]][1]), known(prints), taken);
        each("copy", isFull ? FULL : NEVER, (o, a) -> o.copy(a[0]), known(prints));
        each("mark", NEVER, (o, a) -> o.mark(a[0], a[1], a[2], a[3], true),
            known(prints), known(12), outside(0, 7), outside(0, 1));
        each("mark gone", NEVER, (o, a) -> o.mark(a[0], a[1], a[2], a[3], false),
            known(prints), known(12), outside(0, 7), outside(0, 1));
        each("length", NEVER, (o, a) -> o.length(a[0]), known(prints));
        each("picture", NEVER, (o, a) -> o.picture(a[0], a[1], a[2]), known(prints), known(12), outside(0, 2));
    }

    private void markCalls() {
        // phases that are let, or not, by each of the rounds that are let
        Argument phase = new Argument(OUTSIDE, numbers(0, 1), numbers(-1, 19));
        each("lets", NEVER, (o, a) -> o.lets(a[0], a[1], a[2], a[3], a[4]),
            known(prints), outside(0, 7), outside(0, 2), outside(2, 19), phase);
        each("rounds", NEVER, (o, a) -> o.rounds(a[0], a[1], a[2]), known(prints), outside(0, 7), outside(0, 2));
        each("chance", NEVER, (o, a) -> o.chance(a[0], a[1], a[2], a[3], a[4], a[5]),
            known(prints), outside(0, 7), outside(0, 2), outside(2, 19), phase, outside(0, 1));
        each("whose", NEVER, (o, a) -> o.whose(a[0]), known(prints));
        each("wound", NEVER, (o, a) -> o.wound(a[0], a[1], a[2], a[1] > 3, a[3]),
            known(prints), outside(0, 7), outside(0, 2), outside(0, 2));
    }

    private void moreMarkCalls() {
        each("gone", NEVER, (o, a) -> o.gone(a[0], a[1]), known(prints), outside(1, 11));
        each("earlier", NEVER, (o, a) -> o.earlier(a[0], a[1], a[2], a[3]),
            known(prints), outside(0, 7), outside(2, 19), outside(1, 11));
    }

    private void copyCalls() {
        // q and p, by pairs, of two prints at least
        int last = prints - 1;
        int[][] pairs = {{0, 1}, {0, -1}, {last, 0}, {last, -1}, {-1, 0}, {prints, 0}, {0, prints}, {0, -2}, {0, 0},
            {last, last}, {-1, -1}, {prints, prints}, {prints, -1}};
        int[] bad = numbers(4, 5, 6, 7, 8, 9, 10, 11, 12);
        Argument fromTo = prints == 0 ? new Argument(UNKNOWN, numbers(), numbers(0, 1, 4, 8, 10))
            : new Argument(UNKNOWN, numbers(0, 1, 2, 3), bad);
        each("lacks", NEVER, (o, a) -> o.lacks(pairs[a[0]][0], pairs[a[0]][1], a[1]), fromTo, outside(0, 99));
        each("tree", prints == 0 || isFull ? STATE : NEVER, (o, a) -> o.tree(a[0], a[1]),
            outside(0, 99), outside(0, prints));
        Argument what = new Argument(OUTSIDE, numbers(0, 1, 10), numbers(-1, 2, 9, 58));
        each("whole", prints == 0 ? STATE : NEVER, (o, a) -> o.whole(a[0], a[1], a[2]),
            outside(1, 48), outside(0, 99), what);
        each("left", NEVER, (o, a) -> o.left(a[0]), known(prints));
        each("count", NEVER, (o, a) -> o.count(a[0]), outside(0, 6));
    }
}
