import java.math.BigInteger;
import java.util.ArrayList;
import java.util.List;

/** The boundaries that promises 28 to 31 name: images, counts and the digest. */
public final class ToldEdgeTests {
    private static final int UNKNOWN = Edges.UNKNOWN, OUTSIDE = Edges.OUTSIDE;
    private static final int STATE = Edges.STATE, FULL = Edges.FULL;
    private static final Edges EDGES = new Edges("ToldEdgeTests", 28, 31);

    public static void main(String[] args) {
        imageKept();
        restoreNone();
        restoreAll();
        restoreLeaves();
        countNone();
        countMost();
        countRefused();
        digestOrder();
        digestWraps();
        digestOfEach();
        EDGES.close();
    }

    private static void due(String what, long got, long want) {
        EDGES.due(what, got, want);
    }

    private static void imageKept() {
        EDGES.test(28, "how many PRINTS: none", x -> due("image", x.image(), 0));
        EDGES.test(28, "how many PRINTS: 1 to 6", x -> {
            for (int n = 1; n <= 6; n++) {
                x.print(n);
                due("image of " + n, x.image(), n);
            }
        });
        EDGES.test(28, "it changes nothing else", x -> {
            x.print(4);
            x.mark(0, 1, 2, 0, true);
            x.trace(3, 4);
            long before = x.digest();
            x.image();
            due("digest", x.digest(), before);
        });
        EDGES.test(28, "one; the latest", x -> {
            x.print(1);
            x.image();
            x.print(2);
            x.image();
            x.print(3);
            due("restore", x.restore(), 2);
            due("restore again", x.restore(), 2);
            due("the second stays", x.length(1), 2);
            due("the third is gone", x.length(2), UNKNOWN);
        });
        EDGES.test(28, "one; the latest, though it has fewer PRINTS", x -> {
            x.image();
            x.print(1);
            x.print(2);
            x.image();
            x.restore();
            x.mend(1, 0, 0);
            due("image", x.image(), 2);
            due("restore", x.restore(), 2);
            due("the mended one", x.length(1), 1);
        });
    }

    private static void restoreNone() {
        EDGES.test(29, "STATE: none was kept", x -> EDGES.refused(x, "restore", STATE, x::restore));
        EDGES.test(29, "STATE: none was kept, though there are PRINTS and TRACES", x -> {
            x.print(3);
            x.trace(0, 2);
            EDGES.refused(x, "restore", STATE, x::restore);
            due("prints", x.count(0), 1);
            due("traces", x.count(4), 1);
        });
        EDGES.test(29, "how many PRINTS: none", x -> {
            x.image();
            x.print(3);
            x.trace(0, 2);
            due("restore", x.restore(), 0);
            due("prints", x.count(0), 0);
            due("print 0", x.length(0), UNKNOWN);
            due("traces", x.count(4), 0);
        });
        EDGES.test(29, "how many PRINTS: six", x -> {
            for (int n = 1; n <= 6; n++) {
                x.print(n);
            }
            x.image();
            due("restore", x.restore(), 6);
            EDGES.refused(x, "a seventh", FULL, () -> x.print(1));
        });
        EDGES.test(29, "as often as one likes", x -> {
            x.print(3);
            x.image();
            for (int i = 0; i < 5; i++) {
                x.mark(0, i % 3, i, 0, true);
                x.copy(0);
                due("restore", x.restore(), 1);
                due("marks", x.count(3), 0);
            }
        });
    }

    private static void restoreAll() {
        EDGES.test(29, "all PRINTS: FRAMES and MARKS of the first and the last PICTURE", x -> {
            for (int i = 0; i < 6; i++) {
                x.print(48);
                x.mend(i, i, i);
                x.mark(i, 0, 7, 0, true);
                x.mark(i, 46, 0, 1, true);
            }
            x.image();
            long kept = x.digest();
            for (int i = 0; i < 6; i++) {
                x.mark(i, 0, 7, 0, false);
                x.mark(i, 46, 0, 1, false);
                x.mark(i, 46, 3, 0, true);
                x.mend(i, 1, 40);
            }
            due("restore", x.restore(), 6);
            due("digest", x.digest(), kept);
            for (int i = 0; i < 6; i++) {
                due("length of " + i, x.length(i), 47);
                due("first of " + i, x.picture(i, 0, 1), 128);
                due("last of " + i, x.picture(i, 46, 2), 1);
                due("last frame of " + i, x.picture(i, 46, 0), 47);
            }
        });
        EDGES.test(29, "all TRACES: those that came and those that went", x -> {
            for (int i = 0; i < 4; i++) {
                x.trace(i, 16 + i);
            }
            x.image();
            long kept = x.digest();
            x.clear();
            x.trace(7, 2);
            x.restore();
            due("traces", x.count(4), 4);
            due("digest", x.digest(), kept);
            EDGES.refused(x, "a fifth", FULL, () -> x.trace(0, 2));
        });
        EDGES.test(29, "no TRACES, though there are some", x -> {
            x.print(4);
            Edges.paint(x, 0, 0, 0, 1, 2);
            x.image();
            x.trace(0, 2);
            due("with it", x.gone(0, 2), 1);
            x.restore();
            due("traces", x.count(4), 0);
            due("without it", x.gone(0, 2), 0);
        });
        EDGES.test(29, "the IMAGE stays as it was, whatever is done behind it", x -> {
            x.print(4);
            x.trace(1, 3);
            x.image();
            long kept = x.digest();
            x.mark(0, 0, 0, 0, true);
            x.restore();
            due("once", x.digest(), kept);
            x.mend(0, 0, 2);
            x.clear();
            x.restore();
            due("twice", x.digest(), kept);
            x.print(5);
            x.copy(1);
            x.trace(5, 5);
            x.restore();
            due("thrice", x.digest(), kept);
        });
        EDGES.test(29, "what it tells of FRAMES is that of the IMAGE", x -> {
            x.print(5);
            x.print(5);
            x.image();
            x.mend(0, 0, 3);
            due("frames lacking", x.lacks(1, 0, 0), 32);
            x.restore();
            due("none lacking", x.lacks(1, 0, 0), 0);
            x.mend(1, 0, 3);
            x.image();
            x.restore();
            due("four lacking", x.lacks(0, 1, 0), 32);
            due("left out", x.whole(6, 0, 1), 1);
        });
    }

    private static void restoreLeaves() {
        EDGES.test(29, "MACHINES stay, those behind the IMAGE, too", x -> {
            Typing.machine(x, "g0");
            x.image();
            Typing.machine(x, "g1");
            x.restore();
            due("machines", x.count(1), 2);
            due("the second", x.part(1, 0, 1), 1);
            due("the third", Typing.machine(x, "g2"), 2);
        });
        EDGES.test(29, "THE PAGE stays", x -> {
            Typing.type(x, "g0");
            x.image();
            Typing.type(x, ",g1");
            x.restore();
            due("letters", x.count(5), 5);
            due("machine", x.machine(), 0);
            due("its second part", x.part(0, 1, 1), 1);
        });
        EDGES.test(29, "how often tree() was done stays", x -> {
            x.print(1);
            x.tree(0, 0);
            x.image();
            x.tree(0, 0);
            x.tree(0, 0);
            x.restore();
            due("done", x.count(6), 3);
        });
    }

    private static void countNone() {
        EDGES.test(30, "nothing there yet: 0 of each", x -> {
            for (int what = 0; what <= 6; what++) {
                due("count " + what, x.count(what), 0);
            }
        });
        EDGES.test(30, "one of each", x -> {
            x.print(1);
            Typing.machine(x, "g0,g1");
            x.mark(0, 0, 0, 1, true);
            x.trace(0, 2);
            x.letters('g');
            x.tree(0, 0);
            for (int what = 0; what <= 6; what++) {
                due("count " + what, x.count(what), 1);
            }
        });
    }

    private static void countMost() {
        EDGES.test(30, "as many as there may be", x -> {
            x.print(48);
            Typing.machine(x, "g0,g1,g2,g3");
            Typing.machine(x, "g4,g5,g6,g7");
            for (int i = 2; i < 6; i++) {
                Typing.machine(x, "g0");
            }
            x.run(0, 0, false);
            x.run(0, 1, false);
            for (int i = 1; i < 6; i++) {
                x.copy(0);
                x.run(i, 0, false);
                x.run(i, 1, true);
            }
            for (int i = 0; i < 4; i++) {
                x.trace(i, 2);
            }
            Typing.type(x, "a".repeat(40));
            for (int i = 0; i < 14; i++) {
                x.tree(0, 0);
            }
            // all but the first have white ones, too
            int[] told = {6, 6, 6 * 48, (2 * 6 - 1) * 8 * 48, 4, 40, 12};
            for (int what = 0; what <= 6; what++) {
                due("count " + what, x.count(what), told[what]);
            }
        });
        EDGES.test(30, "MARKS: a BLACK and a WHITE one on one SIDE are two", x -> {
            x.print(2);
            x.mark(0, 0, 7, 0, true);
            x.mark(0, 0, 7, 1, true);
            due("marks", x.count(3), 2);
        });
        EDGES.test(30, "PICTURES and MARKS: those that are taken out are gone", x -> {
            x.print(5);
            x.print(4);
            Edges.paint(x, 0, 0, 0, 0, 1, 4);
            x.mend(0, 1, 4);
            due("pictures", x.count(2), 5);
            due("marks", x.count(3), 1);
        });
    }

    private static void countRefused() {
        EDGES.test(30, "OUTSIDE: what is 0 to 6", x -> {
            for (int what : Edges.around(7)) {
                EDGES.refused(x, "count(" + what + ")", OUTSIDE, () -> x.count(what));
            }
        });
    }

    /** What the digest of an object must be, by what the object's other calls tell. */
    private static long digestOf(LinesDownFilm x, int[][] traces, String page) {
        List<Integer> numbers = new ArrayList<>();
        for (int m = 0; m < x.count(1); m++) {
            for (int part = 0; x.part(m, part, 0) != UNKNOWN; part++) {
                for (int what = 0; what <= 3; what++) {
                    numbers.add(x.part(m, part, what));
                }
            }
        }
        for (int print = 0; print < x.count(0); print++) {
            int n = x.length(print);
            numbers.add(n);
            for (int i = 0; i < n; i++) {
                for (int what = 0; what <= 2; what++) {
                    numbers.add(x.picture(print, i, what));
                }
            }
            numbers.add(x.rounds(print, 0, 2));
            numbers.add(x.whose(print));
            numbers.add(x.left(print));
        }
        for (int[] trace : traces) {
            numbers.add(trace[0]);
            numbers.add(trace[1]);
        }
        for (char letter : page.toCharArray()) {
            numbers.add((int) letter);
        }
        for (int what = 0; what <= 6; what++) {
            numbers.add(x.count(what));
        }
        BigInteger h = BigInteger.valueOf(463);
        for (int number : numbers) {
            h = h.multiply(BigInteger.valueOf(31)).add(BigInteger.valueOf(number));
        }
        return h.longValue();
    }

    private static void digestOrder() {
        EDGES.test(31, "nothing there yet: h is 463, then seven times 0", x -> {
            long h = 463;
            for (int what = 0; what <= 6; what++) {
                h = 31 * h;
            }
            due("digest", x.digest(), h);
        });
        EDGES.test(31, "in order: MACHINES, PRINTS, TRACES, THE PAGE, counts", x -> {
            Typing.machine(x, "g3,t1o5p2");
            Typing.machine(x, "w0o1p9");
            x.print(3);
            x.print(2);
            Edges.paint(x, 0, 0, 0, 0);
            Edges.paint(x, 0, 0, 1, 2);
            Edges.paint(x, 1, 7, 1, 0, 1);
            x.mend(1, 0, 0);
            x.trace(6, 9);
            x.trace(0, 19);
            Typing.type(x, "a~\u0001");
            x.tree(0, 1);
            due("digest", x.digest(), digestOf(x, new int[][] {{6, 9}, {0, 19}}, "a~\u0001"));
        });
        EDGES.test(31, "NONE of a GATE is a number like others", x -> {
            Typing.machine(x, "g3");
            long h = 463;
            for (int number : new int[] {1, 3, -1, -1, 0, 1, 0, 0, 0, 0, 0}) {
                h = 31 * h + number;
            }
            due("digest", x.digest(), h);
        });
    }

    private static void digestWraps() {
        EDGES.test(31, "as longs, wrapping: as many numbers as there may be", x -> {
            for (int i = 0; i < 6; i++) {
                Typing.machine(x, "r0o19p18,t1o18p17,r6o17p16,w7o19p9");
            }
            x.print(48);
            x.run(0, 0, false);
            x.copy(0);
            x.run(1, 1, true);
            for (int i = 0; i < 4; i++) {
                x.trace(7 - i, 19 - i);
            }
            String page = "~".repeat(40);
            Typing.type(x, page);
            x.tree(99, 0);
            due("digest", x.digest(), digestOf(x, new int[][] {{7, 19}, {6, 18}, {5, 17}, {4, 16}}, page));
        });
        EDGES.test(31, "as longs, wrapping: below 0 and above", x -> {
            boolean below = false;
            boolean above = false;
            for (int n = 1; n <= 40; n++) {
                x.letters('~');
                long digest = x.digest();
                due("digest of " + n, digest, digestOf(x, new int[0][], "~".repeat(n)));
                below |= digest < 0;
                above |= digest > 0;
            }
            due("both", below && above ? 1 : 0, 1);
        });
    }

    private static void digestOfEach() {
        EDGES.test(31, "it changes nothing", x -> {
            x.print(3);
            x.trace(0, 2);
            Typing.type(x, "g0");
            long once = x.digest();
            due("again", x.digest(), once);
            due("how often tree() was done", x.count(6), 0);
        });
        EDGES.test(31, "rounds() of SIDE 0, sort 2: BLACK and WHITE together", x -> {
            x.print(3);
            Edges.paint(x, 0, 0, 0, 0);
            Edges.paint(x, 0, 0, 1, 2);
            due("rounds", x.rounds(0, 0, 2), 4);
            due("digest", x.digest(), digestOf(x, new int[0][], ""));
        });
        EDGES.test(31, "rounds() of SIDE 0 alone", x -> {
            x.print(3);
            Edges.paint(x, 0, 1, 0, 0, 2);
            due("digest", x.digest(), digestOf(x, new int[0][], ""));
        });
        EDGES.test(31, "WHOSE and LEFT of each PRINT", x -> {
            Typing.machine(x, "g0");
            for (int i = 0; i < 3; i++) {
                x.print(2);
            }
            x.run(1, 0, false);
            due("digest of one run", x.digest(), digestOf(x, new int[0][], ""));
            x.run(0, 0, false);
            due("digest of two run", x.digest(), digestOf(x, new int[0][], ""));
        });
        EDGES.test(31, "an IMAGE is none of these numbers", x -> {
            x.print(2);
            long before = x.digest();
            x.image();
            due("digest", x.digest(), before);
        });
    }
}
