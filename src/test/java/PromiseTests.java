import java.util.function.Consumer;

/** Each promise by hand: ordinary inputs, edges, wrong inputs, and that refusals change nothing. */
public final class PromiseTests {
    private static final int NONE = -1, UNKNOWN = -101, OUTSIDE = -102, STATE = -103, FULL = -104;
    private static final int LOW = Integer.MIN_VALUE, HIGH = Integer.MAX_VALUE;
    private static final Checks CHECKS = new Checks("PromiseTests");

    private static void due(String what, long got, long want) {
        CHECKS.due(what, got, want);
    }

    private static long word(String text) {
        return Typing.word(text);
    }

    private static int machine(LinesDownFilm x, String text) {
        return Typing.machine(x, text);
    }

    /** Runs some calls that must all be refused, and looks whether anything changed. */
    private static void unchanged(String what, LinesDownFilm x, Consumer<LinesDownFilm> calls) {
        long before = x.digest();
        calls.accept(x);
        due(what + " changes nothing", x.digest(), before);
    }

    private static void paint(LinesDownFilm x, int print, int side, int sort, int... pictures) {
        for (int p : pictures) {
            x.mark(print, p, side, sort, true);
        }
    }

    /** The pictures with a mark on a side, as bits. */
    private static long pictures(LinesDownFilm x, int print, int side, int what) {
        long bits = 0;
        for (int i = 0; i < x.length(print); i++) {
            bits |= (long) (x.picture(print, i, what) >> side & 1) << i;
        }
        return bits;
    }

    private static long bits(int... places) {
        long bits = 0;
        for (int p : places) {
            bits |= 1L << p;
        }
        return bits;
    }

    public static void main(String[] args) {
        constants();
        newObject();
        letters();
        blank();
        fault();
        machine();
        part();
        as();
        print();
        run();
        runBack();
        mend();
        copy();
        mark();
        lengthAndPicture();
        lets();
        rounds();
        chance();
        whose();
        wound();
        traceAndClear();
        gone();
        earlier();
        lacks();
        tree();
        treeLikeOnes();
        treeLimit();
        whole();
        wholeLeftOut();
        wholeRefusals();
        left();
        imageAndRestore();
        count();
        digest();
        CHECKS.close();
    }

    private static void constants() {
        due("NONE", LinesDownFilm.NONE, -1);
        due("UNKNOWN", LinesDownFilm.UNKNOWN, -101);
        due("OUTSIDE", LinesDownFilm.OUTSIDE, -102);
        due("STATE", LinesDownFilm.STATE, -103);
        due("FULL", LinesDownFilm.FULL, -104);
    }

    // 1
    private static void newObject() {
        LinesDownFilm x = new LinesDownFilm();
        for (int what = 0; what <= 6; what++) {
            due("new: count " + what, x.count(what), 0);
        }
        due("new: length", x.length(0), UNKNOWN);
        due("new: part", x.part(0, 0, 0), UNKNOWN);
        due("new: run", x.run(0, 0, false), UNKNOWN);
        due("new: restore", x.restore(), STATE);
        due("new: fault", x.fault(), 0);
        LinesDownFilm y = new LinesDownFilm();
        x.print(3);
        machine(x, "g0");
        x.trace(0, 2);
        due("objects are apart", y.count(0) + y.count(1) + y.count(4), 0);
    }

    // 2
    private static void letters() {
        LinesDownFilm x = new LinesDownFilm();
        due("two letters", x.letters(word("g0")), 2);
        due("none more", x.letters(0), 2);
        due("eight more", x.letters(word("abcdefgh")), 10);
        due("code 1", x.letters(1), 11);
        due("code 126", x.letters(126), 12);
        due("code 126 last of eight", x.letters(126L << 56 | word("aaaaaaa")), 20);
        unchanged("letters OUTSIDE", x, o -> {
            due("code 127", o.letters(127), OUTSIDE);
            due("code 128", o.letters(128), OUTSIDE);
            due("code 255", o.letters(255), OUTSIDE);
            due("127 behind others", o.letters(127L << 16 | word("ab")), OUTSIDE);
            due("128 last of eight", o.letters(128L << 56 | word("aaaaaaa")), OUTSIDE);
            due("behind a 0", o.letters(97L << 8), OUTSIDE);
            due("behind a 0, with one ahead", o.letters(97L << 16 | 97), OUTSIDE);
            due("last behind 0s", o.letters(1L << 56), OUTSIDE);
            due("-1", o.letters(-1), OUTSIDE);
            due("lowest", o.letters(Long.MIN_VALUE), OUTSIDE);
        });
        due("to 28", x.letters(word("bbbbbbbb")), 28);
        due("to 36", x.letters(word("bbbbbbbb")), 36);
        unchanged("letters FULL", x, o -> {
            due("41 are too many", o.letters(word("ccccc")), FULL);
            due("44 are too many", o.letters(word("cccccccc")), FULL);
        });
        due("40 are not", x.letters(word("cccc")), 40);
        due("none more at 40", x.letters(0), 40);
        unchanged("letters at 40", x, o -> {
            due("one more at 40", o.letters(97), FULL);
            due("OUTSIDE ahead of FULL", o.letters(127), OUTSIDE);
            due("a 0 between ahead of FULL", o.letters(97L << 8), OUTSIDE);
        });
    }

    // 3
    private static void blank() {
        LinesDownFilm x = new LinesDownFilm();
        due("blank of none", x.blank(), 0);
        x.letters(word("g0,xy"));
        due("blank of five", x.blank(), 5);
        due("blank again", x.blank(), 0);
        due("no letters", x.count(5), 0);
        due("none is left of the old", machine(x, "g1"), 0);
    }

    // 4
    private static void fault() {
        String[] texts = {
            "", "x", "G0", "g", "g8", "g7", "g77", "g7 ", "g7,", "g7,,", "g7,x", "g7,r",
            "g0,g1,g2,g3", "g0,g1,g2,g3,", "g0,g1,g2,g3g", "g0,g1,g2,g3,g4", "g0,g1,r2o2p2",
            "r", "r8", "r0", "r0p", "r0o", "r0o0", "r0o1", "r0o1p", "r0o1p0", "r0o1,", "r0o2", "r0o20", "r0o19",
            "r0o199", "r0o02", "r0o2p", "r0o2p,", "r0o2p0", "r0o2p1", "r0o2p2", "r0o2p10", "r0o2p00",
            "r0o9p8", "r0o9p9", "r0o10p1", "r0o10p10", "r0o10p9", "r0o11p1", "r0o11p10", "r0o11p11", "r0o11p2",
            "r0o11p20", "r0o19p18", "r0o19p19", "r0o19p180", "r0o19p01", "r0o19p9", "r0o19p1,", "r0o19p18,",
            "t8", "t7o3p2", "t7o3p3", "t7o1", "t7o1p", "t7o19p18", "t7o19p19", "t7o12p11,t",
            "w8", "w7", "w0o0", "w0o1", "w0o1p", "w0o1p0", "w0o19p9", "w0o2p9", "w0o20", "w0o1p10", "w0o1p9,", "w0o1p,",
            "w0o10p1", "w0o199", "w0o1,", "w0o19p1x",
        };
        int[] places = {
            0, 0, 0, 1, 1, 2, 2, 2, 3, 3, 3, 4,
            11, 11, 11, 11, 11,
            1, 1, 2, 2, 3, 3, 4, 4, 4, 4, 4, 4, 5,
            5, 3, 5, 5, 6, 6, 5, 6, 6,
            6, 5, 7, 7, 7, 7, 8, 7, 7,
            7, 8, 7, 8, 7, 7, 8, 9,
            1, 6, 5, 4, 4, 8, 7, 10,
            1, 2, 3, 4, 5, 6, 7, 6, 4, 6, 7, 5,
            7, 5, 4, 7,
        };
        due("as many texts as places", texts.length, places.length);
        for (int i = 0; i < texts.length; i++) {
            LinesDownFilm x = new LinesDownFilm();
            Typing.type(x, texts[i]);
            long before = x.digest();
            due("fault of " + texts[i], x.fault(), places[i]);
            due("fault again of " + texts[i], x.fault(), places[i]);
            due("fault changes nothing of " + texts[i], x.digest(), before);
        }
    }

    // 5
    private static void machine() {
        String[] none = {
            "", "g", "g0,", "g8", "g0g1", "r0", "r0o5", "r0o5p", "r0o1p0", "r0o5p5", "r0o5p4,", "t0o1", "w0o1",
            "w0o0p0", "w0o1p", "w0o20p0", "w0o1p10", "g0,g1,g2,g3,g4", "r0o05p1", "r0o5p01", " g0", "g0 ",
        };
        LinesDownFilm x = new LinesDownFilm();
        for (String text : none) {
            x.blank();
            Typing.type(x, text);
            unchanged("machine of " + text, x, o -> due("machine of " + text, o.machine(), STATE));
            due("the page stays: " + text, x.count(5), text.length());
        }
        String[] some = {"g0", "r7o2p1", "t1o19p18", "w3o19p9", "g7,g7,g7,g7", "r0o19p18,r0o19p17,t0o19p16,t0o19p15"};
        for (int i = 0; i < some.length; i++) {
            due("machine " + some[i], machine(x, some[i]), i);
            due("the page is empty behind " + some[i], x.count(5), 0);
        }
        Typing.type(x, "g1");
        unchanged("a seventh machine", x, o -> due("a seventh machine", o.machine(), FULL));
        due("the page stays when full", x.count(5), 2);
        x.letters(word(","));
        unchanged("STATE ahead of FULL", x, o -> due("STATE ahead of FULL", o.machine(), STATE));
        due("six machines", x.count(1), 6);
    }

    // 6
    private static void part() {
        LinesDownFilm x = new LinesDownFilm();
        machine(x, "g3,r7o12p11,t1o2p1,w0o19p9");
        machine(x, "w5o1p0");
        int[][] told = {{1, 3, NONE, NONE}, {2, 7, 12, 11}, {3, 1, 2, 1}, {4, 0, 19, 9}};
        for (int p = 0; p < 4; p++) {
            for (int what = 0; what <= 3; what++) {
                due("part " + p + " what " + what, x.part(0, p, what), told[p][what]);
            }
        }
        due("the other machine's", x.part(1, 0, 1), 5);
        due("the other machine's FIRST", x.part(1, 0, 2), 1);
        due("the other machine's THICK", x.part(1, 0, 3), 0);
        for (int what : new int[] {0, 9}) {
            due("machine 2", x.part(2, 0, what), UNKNOWN);
            due("machine -1", x.part(-1, 0, what), UNKNOWN);
            due("machine lowest", x.part(LOW, 0, what), UNKNOWN);
            due("machine highest", x.part(HIGH, 0, what), UNKNOWN);
            due("part 4", x.part(0, 4, what), UNKNOWN);
            due("part 1 of one", x.part(1, 1, what), UNKNOWN);
            due("part -1", x.part(0, -1, what), UNKNOWN);
        }
        due("what 4", x.part(0, 0, 4), OUTSIDE);
        due("what -1", x.part(0, 0, -1), OUTSIDE);
        due("what highest", x.part(0, 3, HIGH), OUTSIDE);
    }

    // 7
    private static void as() {
        LinesDownFilm x = new LinesDownFilm();
        machine(x, "g3,r7o12p11,t1o2p1,w0o19p9");
        machine(x, "w5o1p0,t0o3p0");
        boolean[][] is = {
            {true, true, false, false, false}, {true, false, true, false, false},
            {true, false, true, true, false}, {true, false, false, false, true},
        };
        for (int p = 0; p < 4; p++) {
            for (int kind = 0; kind <= 4; kind++) {
                due("part " + p + " as " + kind, x.as(0, p, kind), is[p][kind] ? p : NONE);
            }
        }
        due("a toothed as a roller", x.as(1, 1, 2), 1);
        due("a wound as a wound", x.as(1, 0, 4), 0);
        due("as: machine 2", x.as(2, 0, 0), UNKNOWN);
        due("as: machine -1", x.as(-1, 0, 5), UNKNOWN);
        due("as: part 4", x.as(0, 4, 0), UNKNOWN);
        due("as: part 2 of two", x.as(1, 2, -1), UNKNOWN);
        due("as: part -1", x.as(0, -1, 0), UNKNOWN);
        due("as: kind 5", x.as(0, 0, 5), OUTSIDE);
        due("as: kind -1", x.as(0, 0, -1), OUTSIDE);
        due("as: kind lowest", x.as(0, 0, LOW), OUTSIDE);
    }

    // 8
    private static void print() {
        LinesDownFilm x = new LinesDownFilm();
        unchanged("print OUTSIDE", x, o -> {
            due("print 0", o.print(0), OUTSIDE);
            due("print 49", o.print(49), OUTSIDE);
            due("print -1", o.print(-1), OUTSIDE);
            due("print lowest", o.print(LOW), OUTSIDE);
            due("print highest", o.print(HIGH), OUTSIDE);
        });
        int[] sizes = {1, 48, 2, 47, 10, 5};
        for (int i = 0; i < 6; i++) {
            due("print " + sizes[i], x.print(sizes[i]), i);
            due("length " + i, x.length(i), sizes[i]);
            for (int k = 0; k < sizes[i]; k++) {
                due("frame", x.picture(i, k, 0), k);
                due("no marks", x.picture(i, k, 1) + x.picture(i, k, 2), 0);
            }
        }
        unchanged("a seventh print", x, o -> {
            due("a seventh print", o.print(3), FULL);
            due("OUTSIDE ahead of FULL", o.print(49), OUTSIDE);
        });
    }

    // 9
    private static void run() {
        LinesDownFilm x = new LinesDownFilm();
        machine(x, "g0");
        machine(x, "r1o4p2");
        machine(x, "t2o3p1");
        machine(x, "w3o2p1");
        machine(x, "w4o3p0,r4o3p0");
        machine(x, "r5o19p18,w5o19p0,t5o10p9,r5o5p4");
        x.print(12);
        due("gate", x.run(0, 0, false), 12);
        due("gate on all", pictures(x, 0, 0, 1), (1L << 12) - 1);
        due("roller", x.run(0, 1, false), 3);
        due("roller on 2, 6, 10", pictures(x, 0, 1, 1), bits(2, 6, 10));
        due("toothed", x.run(0, 2, false), 2);
        due("toothed on 1, 7", pictures(x, 0, 2, 1), bits(1, 7));
        due("wound", x.run(0, 3, false), 3);
        due("wound on 2, 5, 9", pictures(x, 0, 3, 1), bits(2, 5, 9));
        due("two parts on one side", x.run(0, 4, false), 4);
        due("a wound that does not grow", pictures(x, 0, 4, 1), bits(0, 3, 6, 9));
        due("parts off the end, and two on one picture", x.run(0, 5, false), 2);
        due("only the ones there are", pictures(x, 0, 5, 1), bits(4, 9));
        due("again: nothing is new", x.run(0, 1, false), 0);
        due("no white marks", pictures(x, 0, 1, 2), 0);
        due("roller the other side's marks stay", x.picture(0, 2, 1), 1 << 0 | 1 << 1 | 1 << 3);
        x.mark(0, 6, 1, 0, false);
        due("only the missing one is new", x.run(0, 1, false), 1);
        x.mark(0, 1, 1, 1, true);
        due("a white mark is no black one", x.run(0, 1, true), 3);
        due("back on 9, 5, 1", pictures(x, 0, 1, 1), bits(2, 6, 10, 9, 5, 1));
        x.print(48);
        due("wound on the longest", x.run(1, 3, false), 8);
        due("its ways", pictures(x, 1, 3, 1), bits(2, 5, 9, 14, 20, 27, 35, 44));
        due("the longest gate", x.run(1, 0, true), 48);
        unchanged("run UNKNOWN", x, o -> {
            due("run: print 2", o.run(2, 0, false), UNKNOWN);
            due("run: print -1", o.run(-1, 0, false), UNKNOWN);
            due("run: machine 6", o.run(0, 6, true), UNKNOWN);
            due("run: machine -1", o.run(0, -1, true), UNKNOWN);
            due("run: highest", o.run(HIGH, LOW, true), UNKNOWN);
        });
    }

    private static void runBack() {
        LinesDownFilm x = new LinesDownFilm();
        machine(x, "r0o4p1,t1o4p1,w2o1p1,g3");
        x.print(11);
        due("back", x.run(0, 0, true), 3 + 2 + 4 + 11);
        due("roller back: 10 less 1, 5, 9", pictures(x, 0, 0, 1), bits(9, 5, 1));
        due("toothed back: 10 less 1, 9", pictures(x, 0, 1, 1), bits(9, 1));
        due("wound back: 10 less 1, 3, 6, 10", pictures(x, 0, 2, 1), bits(9, 7, 4, 0));
        due("gate back", pictures(x, 0, 3, 1), (1L << 11) - 1);
        x.print(8);
        due("back on eight", x.run(1, 0, true), 2 + 1 + 3 + 8);
        due("roller back: 7 less 1, 5", pictures(x, 1, 0, 1), bits(6, 2));
        // the first one is the first of those that forward has, told from the end
        due("toothed back: 7 less 1", pictures(x, 1, 1, 1), bits(6));
        due("wound back: 7 less 1, 3, 6", pictures(x, 1, 2, 1), bits(6, 4, 1));
        x.mend(1, 0, 4);
        x.run(1, 0, false);
        due("by its place, not its frame", pictures(x, 1, 0, 1), bits(1));
    }

    // 10
    private static void mend() {
        LinesDownFilm x = new LinesDownFilm();
        x.print(10);
        paint(x, 0, 2, 0, 0, 3, 6, 9);
        paint(x, 0, 5, 1, 6, 7);
        unchanged("mend refused", x, o -> {
            due("mend: print 1", o.mend(1, 0, 0), UNKNOWN);
            due("mend: print -1", o.mend(-1, 9, 0), UNKNOWN);
            due("mend: a below 0", o.mend(0, -1, 2), OUTSIDE);
            due("mend: b too far", o.mend(0, 3, 10), OUTSIDE);
            due("mend: a above b", o.mend(0, 4, 3), OUTSIDE);
            due("mend: all", o.mend(0, 0, 9), OUTSIDE);
            due("mend: lowest", o.mend(0, LOW, HIGH), OUTSIDE);
            due("mend: both too far", o.mend(0, 10, 10), OUTSIDE);
        });
        due("mend 2 to 4", x.mend(0, 2, 4), 7);
        int[] frames = {0, 1, 5, 6, 7, 8, 9};
        for (int i = 0; i < 7; i++) {
            due("frame behind mending", x.picture(0, i, 0), frames[i]);
        }
        due("marks go along", pictures(x, 0, 2, 1), bits(0, 3, 6));
        due("white marks go along", pictures(x, 0, 5, 2), bits(3, 4));
        due("picture 7 is gone", x.picture(0, 7, 0), UNKNOWN);
        due("the first", x.mend(0, 0, 0), 6);
        due("the last", x.mend(0, 5, 5), 5);
        due("all but the first", x.mend(0, 1, 4), 1);
        due("frame 1 is left", x.picture(0, 0, 0), 1);
        due("the only one", x.mend(0, 0, 0), OUTSIDE);
        x.print(3);
        due("all but the last", x.mend(1, 0, 1), 1);
        due("frame 2 is left", x.picture(1, 0, 0), 2);
    }

    // 11
    private static void copy() {
        LinesDownFilm x = new LinesDownFilm();
        x.print(6);
        paint(x, 0, 1, 0, 0, 2);
        paint(x, 0, 1, 1, 2, 4);
        paint(x, 0, 7, 0, 5);
        x.mend(0, 1, 1);
        due("copy", x.copy(0), 1);
        due("length of the copy", x.length(1), 5);
        int[] frames = {0, 2, 3, 4, 5};
        for (int i = 0; i < 5; i++) {
            due("frame of the copy", x.picture(1, i, 0), frames[i]);
            due("no black ones", x.picture(1, i, 1), 0);
        }
        due("white by black and white", pictures(x, 1, 1, 2), bits(0, 1, 3));
        due("white by black", pictures(x, 1, 7, 2), bits(4));
        due("the old one stays", pictures(x, 0, 1, 1), bits(0, 1));
        due("the old one's white", pictures(x, 0, 1, 2), bits(1, 3));
        x.mark(1, 0, 3, 0, true);
        due("they are two", x.picture(0, 0, 1), 2);
        due("copy of a copy", x.copy(1), 2);
        due("all white", x.picture(2, 0, 2), 2 | 8);
        x.copy(0);
        x.copy(0);
        due("the sixth", x.copy(0), 5);
        unchanged("copy refused", x, o -> {
            due("copy: FULL", o.copy(0), FULL);
            due("copy: print 6, ahead of FULL", o.copy(6), UNKNOWN);
            due("copy: print -1", o.copy(-1), UNKNOWN);
            due("copy: lowest", o.copy(LOW), UNKNOWN);
        });
    }

    // 12
    private static void mark() {
        LinesDownFilm x = new LinesDownFilm();
        x.print(4);
        due("a black one", x.mark(0, 3, 7, 0, true), 1);
        due("again", x.mark(0, 3, 7, 0, true), 0);
        due("it is there", x.picture(0, 3, 1), 128);
        due("no white one", x.picture(0, 3, 2), 0);
        due("a white one on the same side", x.mark(0, 3, 7, 1, true), 1);
        due("it is there, too", x.picture(0, 3, 2), 128);
        due("on another side", x.mark(0, 3, 0, 0, true), 1);
        due("both", x.picture(0, 3, 1), 129);
        due("away", x.mark(0, 3, 7, 0, false), 1);
        due("away again", x.mark(0, 3, 7, 0, false), 0);
        due("the white one stays", x.picture(0, 3, 2), 128);
        due("the other stays", x.picture(0, 3, 1), 1);
        due("others have none", x.picture(0, 2, 1) + x.picture(0, 2, 2), 0);
        unchanged("mark refused", x, o -> {
            due("mark: print 1", o.mark(1, 0, 0, 0, true), UNKNOWN);
            due("mark: print -1", o.mark(-1, 0, 8, 0, true), UNKNOWN);
            due("mark: picture 4", o.mark(0, 4, 9, 9, true), UNKNOWN);
            due("mark: picture -1", o.mark(0, -1, 0, 0, true), UNKNOWN);
            due("mark: side 8", o.mark(0, 0, 8, 0, true), OUTSIDE);
            due("mark: side -1", o.mark(0, 0, -1, 0, true), OUTSIDE);
            due("mark: sort 2", o.mark(0, 0, 0, 2, true), OUTSIDE);
            due("mark: sort -1", o.mark(0, 0, 0, -1, true), OUTSIDE);
        });
    }

    // 13, 14
    private static void lengthAndPicture() {
        LinesDownFilm x = new LinesDownFilm();
        x.print(48);
        x.print(1);
        due("length 48", x.length(0), 48);
        due("length 1", x.length(1), 1);
        due("length: print 2", x.length(2), UNKNOWN);
        due("length: print -1", x.length(-1), UNKNOWN);
        due("length: highest", x.length(HIGH), UNKNOWN);
        x.mark(0, 47, 4, 0, true);
        x.mark(0, 47, 6, 1, true);
        due("frame", x.picture(0, 47, 0), 47);
        due("black", x.picture(0, 47, 1), 16);
        due("white", x.picture(0, 47, 2), 64);
        due("picture: print 2", x.picture(2, 0, 0), UNKNOWN);
        due("picture: print -1", x.picture(-1, 0, 3), UNKNOWN);
        due("picture 48", x.picture(0, 48, 0), UNKNOWN);
        due("picture 1 of one", x.picture(1, 1, 7), UNKNOWN);
        due("picture -1", x.picture(0, -1, 0), UNKNOWN);
        due("picture: what 3", x.picture(0, 0, 3), OUTSIDE);
        due("picture: what -1", x.picture(0, 0, -1), OUTSIDE);
    }

    // 15
    private static void lets() {
        LinesDownFilm x = new LinesDownFilm();
        x.print(10);
        paint(x, 0, 3, 0, 1, 4, 7);
        due("round 3, phase 1", x.lets(0, 3, 0, 3, 1), 1);
        due("round 3, phase 0", x.lets(0, 3, 0, 3, 0), 0);
        due("round 6: 1, 7", x.lets(0, 3, 0, 6, 1), 1);
        due("round 6: only 4", x.lets(0, 3, 0, 6, 4), 0);
        due("round 2: 3 is clean", x.lets(0, 3, 0, 2, 1), 0);
        due("not white", x.lets(0, 3, 1, 3, 1), 0);
        due("either", x.lets(0, 3, 2, 3, 1), 1);
        due("another side", x.lets(0, 2, 0, 3, 1), 0);
        due("one alone is too few", x.lets(0, 3, 0, 9, 4), 0);
        due("none at all is too few", x.lets(0, 3, 0, 19, 18), 0);
        x.mark(0, 4, 3, 0, false);
        due("one is gone", x.lets(0, 3, 0, 3, 1), 0);
        x.mark(0, 4, 3, 1, true);
        due("one black, one white: either", x.lets(0, 3, 2, 3, 1), 1);
        due("one black, one white: black", x.lets(0, 3, 0, 3, 1), 0);
        due("one black, one white: white", x.lets(0, 3, 1, 3, 1), 0);
        due("white alone", x.lets(0, 3, 1, 9, 4), 0);
        due("lets: print 1", x.lets(1, 8, 3, 1, -1), UNKNOWN);
        due("lets: print -1", x.lets(-1, 0, 0, 2, 0), UNKNOWN);
        due("lets: side 8", x.lets(0, 8, 0, 2, 0), OUTSIDE);
        due("lets: side -1", x.lets(0, -1, 0, 2, 0), OUTSIDE);
        due("lets: sort 3", x.lets(0, 0, 3, 2, 0), OUTSIDE);
        due("lets: sort -1", x.lets(0, 0, -1, 2, 0), OUTSIDE);
        due("lets: round 1", x.lets(0, 0, 0, 1, 0), OUTSIDE);
        due("lets: round 0", x.lets(0, 0, 0, 0, 0), OUTSIDE);
        due("lets: round 20", x.lets(0, 0, 0, 20, 0), OUTSIDE);
        due("lets: phase is the round", x.lets(0, 0, 0, 2, 2), OUTSIDE);
        due("lets: phase 18 of 19", x.lets(0, 0, 0, 19, 18), 0);
        due("lets: phase 19 of 19", x.lets(0, 0, 0, 19, 19), OUTSIDE);
        due("lets: phase -1", x.lets(0, 0, 0, 2, -1), OUTSIDE);
    }

    // 16
    private static void rounds() {
        LinesDownFilm x = new LinesDownFilm();
        x.print(20);
        due("clean: none", x.rounds(0, 0, 2), 0);
        machine(x, "g0,r1o4p1");
        x.run(0, 0, false);
        due("a gate: all", x.rounds(0, 0, 0), (1 << 20) - 4);
        // 1, 5, 9, 13, 17: rounds 4, 8, 12, 16 and no more
        due("a roller: its round and more of it", x.rounds(0, 1, 0), 1 << 4 | 1 << 8 | 1 << 12 | 1 << 16);
        due("not white", x.rounds(0, 1, 1), 0);
        due("either", x.rounds(0, 1, 2), 1 << 4 | 1 << 8 | 1 << 12 | 1 << 16);
        paint(x, 0, 2, 1, 0, 19);
        due("round 19 by its two", x.rounds(0, 2, 1), 1 << 19);
        x.print(3);
        paint(x, 1, 0, 0, 0, 2);
        due("round 2 of three", x.rounds(1, 0, 0), 1 << 2);
        due("rounds: print 2", x.rounds(2, 8, 3), UNKNOWN);
        due("rounds: print -1", x.rounds(-1, 0, 0), UNKNOWN);
        due("rounds: side 8", x.rounds(0, 8, 0), OUTSIDE);
        due("rounds: side -1", x.rounds(0, -1, 0), OUTSIDE);
        due("rounds: sort 3", x.rounds(0, 0, 3), OUTSIDE);
        due("rounds: sort -1", x.rounds(0, 0, -1), OUTSIDE);
    }

    // 17
    private static void chance() {
        LinesDownFilm x = new LinesDownFilm();
        x.print(10);
        paint(x, 0, 0, 0, 1, 4, 7, 8);
        // 4 dealt to 10, three needed: 4*3*2 of 10*9*8
        due("above", x.chance(0, 0, 0, 3, 1, 0), 1);
        due("below", x.chance(0, 0, 0, 3, 1, 1), 30);
        due("four needed", x.chance(0, 0, 0, 3, 0, 1), 210);
        due("five needed: above", x.chance(0, 0, 0, 2, 0, 0), 0);
        due("five needed: below", x.chance(0, 0, 0, 2, 0, 1), 1);
        due("none needed: above", x.chance(0, 0, 0, 11, 10, 0), 1);
        due("none needed: below", x.chance(0, 0, 0, 11, 10, 1), 1);
        due("one needed: above", x.chance(0, 0, 0, 10, 9, 0), 2);
        due("one needed: below", x.chance(0, 0, 0, 10, 9, 1), 5);
        due("no white ones: above", x.chance(0, 0, 1, 3, 1, 0), 0);
        due("no white ones: below", x.chance(0, 0, 1, 3, 1, 1), 1);
        due("no white ones, none needed", x.chance(0, 0, 1, 19, 18, 0), 1);
        x.mark(0, 8, 0, 1, true);
        x.mark(0, 9, 0, 1, true);
        due("either: a picture counts once", x.chance(0, 0, 2, 10, 9, 0), 1);
        due("either: a picture counts once, below", x.chance(0, 0, 2, 10, 9, 1), 2);
        x.print(48);
        for (int i = 0; i < 24; i++) {
            x.mark(1, 2 * i, 5, 0, true);
        }
        due("of 48 all the 24: above", x.chance(1, 5, 0, 2, 0, 0), 1);
        due("of 48 all the 24: below", x.chance(1, 5, 0, 2, 0, 1), 32247603683100L);
        x.mark(1, 1, 5, 0, true);
        // 25 * 24 * .. * 2 of 48 * .. * 25: 25 of 32247603683100
        due("one more: above", x.chance(1, 5, 0, 2, 0, 0), 1);
        due("one more: below", x.chance(1, 5, 0, 2, 0, 1), 32247603683100L / 25);
        machine(x, "g5");
        x.run(1, 0, false);
        due("all have one", x.chance(1, 5, 0, 2, 1, 1), 1);
        due("chance: print 2", x.chance(2, 8, 3, 1, 0, 2), UNKNOWN);
        due("chance: print -1", x.chance(-1, 0, 0, 2, 0, 0), UNKNOWN);
        due("chance: side 8", x.chance(0, 8, 0, 2, 0, 0), OUTSIDE);
        due("chance: side -1", x.chance(0, -1, 0, 2, 0, 0), OUTSIDE);
        due("chance: sort 3", x.chance(0, 0, 3, 2, 0, 0), OUTSIDE);
        due("chance: sort -1", x.chance(0, 0, -1, 2, 0, 0), OUTSIDE);
        due("chance: round 1", x.chance(0, 0, 0, 1, 0, 0), OUTSIDE);
        due("chance: round 20", x.chance(0, 0, 0, 20, 0, 0), OUTSIDE);
        due("chance: phase 2 of 2", x.chance(0, 0, 0, 2, 2, 0), OUTSIDE);
        due("chance: phase -1", x.chance(0, 0, 0, 2, -1, 0), OUTSIDE);
        due("chance: part 2", x.chance(0, 0, 0, 2, 0, 2), OUTSIDE);
        due("chance: part -1", x.chance(0, 0, 0, 2, 0, -1), OUTSIDE);
    }

    // 18
    private static void whose() {
        LinesDownFilm x = new LinesDownFilm();
        x.print(12);
        due("no machines", x.whose(0), 0);
        machine(x, "r0o4p1");
        machine(x, "r0o4p1,t0o2p0");
        machine(x, "r0o19p18");
        machine(x, "w1o2p1");
        machine(x, "g7");
        machine(x, "r0o8p1");
        due("only one that would leave none", x.whose(0), 4);
        x.run(0, 0, false);
        due("the roller, and the one of twice its round", x.whose(0), 1 | 4 | 32);
        x.run(0, 1, false);
        due("both parts", x.whose(0), 1 | 2 | 4 | 32);
        x.mark(0, 5, 0, 0, false);
        due("one mark less", x.whose(0), 4 | 32);
        x.run(0, 3, true);
        due("back is not forward", x.whose(0), 4 | 32);
        x.run(0, 3, false);
        due("forward is", x.whose(0), 4 | 8 | 32);
        x.copy(0);
        due("white marks are not", x.whose(1), 4);
        x.run(1, 4, true);
        due("a gate", x.whose(1), 4 | 16);
        due("whose: print 2", x.whose(2), UNKNOWN);
        due("whose: print -1", x.whose(-1), UNKNOWN);
    }

    // 19
    private static void wound() {
        LinesDownFilm x = new LinesDownFilm();
        x.print(12);
        due("clean: no pairs", x.wound(0, 3, 0, false, 0), 0);
        due("clean: no FIRST", x.wound(0, 3, 0, false, 1), NONE);
        due("clean: no THICK", x.wound(0, 3, 0, false, 2), NONE);
        paint(x, 0, 3, 0, 2, 5, 9);
        due("one pair", x.wound(0, 3, 0, false, 0), 1);
        due("FIRST", x.wound(0, 3, 0, false, 1), 2);
        due("THICK", x.wound(0, 3, 0, false, 2), 1);
        due("not back", x.wound(0, 3, 0, true, 0), 0);
        due("not white", x.wound(0, 3, 1, false, 0), 0);
        due("either", x.wound(0, 3, 2, false, 0), 1);
        x.mark(0, 9, 3, 0, false);
        x.mark(0, 9, 3, 1, true);
        due("one white: black", x.wound(0, 3, 0, false, 0), 0);
        due("one white: either", x.wound(0, 3, 2, false, 2), 1);
        paint(x, 0, 4, 1, 8, 5, 1);
        // from the other end 3, 6, 10: ways of 3, 3, 4 are none; ways of 3 and more: 3, 6, 9
        due("no ways back", x.wound(0, 4, 1, true, 0), 0);
        paint(x, 0, 4, 1, 2);
        due("back: 3, 6, 9", x.wound(0, 4, 1, true, 1), 3);
        due("back: no thickness", x.wound(0, 4, 1, true, 2), 0);
        machine(x, "g5");
        x.run(0, 0, false);
        // of twelve, ways with three pictures: 3 times FIRST and 3 times THICK under 12: sum of FIRST and THICK at most 3
        due("all: 4 by 1 to 3", x.wound(0, 5, 0, false, 0), 3 + 2 + 1);
        due("all: the first FIRST", x.wound(0, 5, 0, false, 1), 1);
        due("all: the first THICK", x.wound(0, 5, 0, false, 2), 0);
        x.print(48);
        x.run(1, 0, false);
        int pairs = 0;
        for (int first = 1; first <= 19; first++) {
            for (int thick = 0; thick <= 9; thick++) {
                pairs += 3 * first + 3 * thick < 48 ? 1 : 0;
            }
        }
        due("all of 48", x.wound(1, 5, 0, true, 0), pairs);
        due("wound: print 2", x.wound(2, 8, 3, true, 3), UNKNOWN);
        due("wound: print -1", x.wound(-1, 0, 0, true, 0), UNKNOWN);
        due("wound: side 8", x.wound(0, 8, 0, true, 0), OUTSIDE);
        due("wound: side -1", x.wound(0, -1, 0, true, 0), OUTSIDE);
        due("wound: sort 3", x.wound(0, 0, 3, true, 0), OUTSIDE);
        due("wound: sort -1", x.wound(0, 0, -1, true, 0), OUTSIDE);
        due("wound: what 3", x.wound(0, 0, 0, true, 3), OUTSIDE);
        due("wound: what -1", x.wound(0, 0, 0, true, -1), OUTSIDE);
    }

    // 20, 21
    private static void traceAndClear() {
        LinesDownFilm x = new LinesDownFilm();
        due("clear of none", x.clear(), 0);
        unchanged("trace OUTSIDE", x, o -> {
            due("trace: side 8", o.trace(8, 2), OUTSIDE);
            due("trace: side -1", o.trace(-1, 2), OUTSIDE);
            due("trace: round 1", o.trace(0, 1), OUTSIDE);
            due("trace: round 20", o.trace(0, 20), OUTSIDE);
        });
        due("one", x.trace(0, 2), 1);
        due("two", x.trace(7, 19), 2);
        due("the same again", x.trace(7, 19), 3);
        due("four", x.trace(3, 4), 4);
        unchanged("a fifth trace", x, o -> {
            due("a fifth", o.trace(1, 2), FULL);
            due("OUTSIDE ahead of FULL", o.trace(1, 1), OUTSIDE);
        });
        due("four traces", x.count(4), 4);
        due("clear", x.clear(), 4);
        due("no traces", x.count(4), 0);
        due("one again", x.trace(1, 2), 1);
    }

    // 22
    private static void gone() {
        LinesDownFilm x = new LinesDownFilm();
        x.print(40);
        machine(x, "r0o7p3,r1o11p4,r2o4p0,r3o2p1");
        x.run(0, 0, false);
        due("no traces: 0", x.gone(0, 20), 0);
        x.mend(0, 15, 19);
        x.trace(0, 7);
        due("5 gone by one trace", x.gone(0, 15), 5);
        x.trace(1, 11);
        due("5 gone by two", x.gone(0, 15), 5);
        x.clear();
        x.trace(2, 4);
        due("1 would do for this one", x.gone(0, 15), 1);
        due("elsewhere 0", x.gone(0, 8), 0);
        x.clear();
        x.trace(7, 5);
        due("a trace without marks tells nothing", x.gone(0, 15), 0);
        x.print(4);
        paint(x, 1, 0, 0, 0, 3);
        x.clear();
        x.trace(0, 2);
        x.trace(0, 4);
        // 0 is 3 and g by 2 and by 4: 1
        due("both", x.gone(1, 2), 1);
        paint(x, 1, 1, 0, 1, 3);
        x.trace(1, 2);
        // 1 is 3 and g by 2: even; 0 is 3 and g by 4: odd
        due("none of 0 to 99", x.gone(1, 2), NONE);
        paint(x, 1, 5, 0, 0);
        x.clear();
        x.trace(5, 3);
        due("none behind", x.gone(1, 2), 0);
        paint(x, 1, 6, 1, 0, 2);
        x.trace(6, 3);
        due("white ones don't count", x.gone(1, 1), 0);
        far();
        due("gone: print 2", x.gone(2, 0), UNKNOWN);
        due("gone: print -1", x.gone(-1, 1), UNKNOWN);
        due("gone: place 0", x.gone(1, 0), OUTSIDE);
        due("gone: place is the length", x.gone(1, 4), OUTSIDE);
        due("gone: the last place", x.gone(1, 3), 0);
        due("gone: place -1", x.gone(1, -1), OUTSIDE);
        x.print(1);
        due("gone: one picture has no place", x.gone(2, 1), OUTSIDE);
    }

    /** The least g is just at the end of 0 to 99, or just behind it. */
    private static void far() {
        LinesDownFilm x = new LinesDownFilm();
        x.print(30);
        paint(x, 0, 0, 0, 17, 18);
        paint(x, 0, 1, 0, 16, 18);
        // 17 is 18 and g by 19: g is 18, 37, 56, 75, 94 ..
        x.trace(0, 19);
        due("18 by one", x.gone(0, 18), 18);
        // 16 is 18 and g by 7: g is 5, 12, 19 .. 75
        x.trace(1, 7);
        due("75 by two", x.gone(0, 18), 75);
        x.clear();
        x.trace(0, 10);
        x.trace(1, 11);
        // g is 9 by 10 and 9 by 11
        due("9 by two", x.gone(0, 18), 9);
        x.mark(0, 16, 1, 0, false);
        x.mark(0, 7, 1, 0, true);
        // 7 is 18 and g by 11: g is 0 by 11, 9 by 10: 99
        due("99 by two", x.gone(0, 18), 99);
        x.mark(0, 7, 1, 0, false);
        x.mark(0, 8, 1, 0, true);
        // g is 1 by 11, 9 by 10: 89
        due("89 by two", x.gone(0, 18), 89);
        x.mark(0, 17, 0, 0, false);
        x.mark(0, 8, 0, 0, true);
        // g is 1 by 11, 0 by 10: 100
        due("100 is just too far", x.gone(0, 18), NONE);
        x.mark(0, 17, 0, 0, true);
        x.clear();
        x.trace(0, 16);
        x.trace(1, 17);
        // 17 is 18 and g by 16: 15; 8 is 18 and g by 17: 7; 15 and 16 k by 17 7: k is 8: 143
        due("143 is too far", x.gone(0, 18), NONE);
    }

    // 23
    private static void earlier() {
        LinesDownFilm x = new LinesDownFilm();
        x.print(20);
        machine(x, "r0o4p1");
        x.run(0, 0, false);
        x.mend(0, 6, 8);
        due("ahead of the mending", x.earlier(0, 0, 4, 6), 1);
        due("by another round", x.earlier(0, 0, 2, 6), 1);
        x.print(20);
        x.mend(1, 6, 8);
        x.run(1, 0, false);
        due("behind the mending", x.earlier(1, 0, 4, 6), 0);
        due("behind, at 5", x.earlier(1, 0, 4, 5), 0);
        due("by round 3", x.earlier(1, 0, 3, 6), 1);
        due("none ahead", x.earlier(1, 0, 4, 1), NONE);
        due("none behind", x.earlier(1, 0, 4, 14), NONE);
        due("from c on is behind", x.earlier(1, 0, 4, 13), 0);
        due("no marks", x.earlier(1, 1, 4, 6), NONE);
        x.copy(1);
        due("white ones don't count", x.earlier(2, 0, 4, 6), NONE);
        due("earlier: print 3", x.earlier(3, 8, 1, 0), UNKNOWN);
        due("earlier: print -1", x.earlier(-1, 0, 2, 1), UNKNOWN);
        due("earlier: side 8", x.earlier(0, 8, 2, 1), OUTSIDE);
        due("earlier: side -1", x.earlier(0, -1, 2, 1), OUTSIDE);
        due("earlier: round 1", x.earlier(0, 0, 1, 1), OUTSIDE);
        due("earlier: round 0", x.earlier(0, 0, 0, 1), OUTSIDE);
        due("earlier: round 20", x.earlier(0, 0, 20, 1), OUTSIDE);
        due("earlier: place 0", x.earlier(0, 0, 2, 0), OUTSIDE);
        due("earlier: place 16, the last", x.earlier(0, 0, 2, 16), NONE);
        due("earlier: place 17", x.earlier(0, 0, 2, 17), OUTSIDE);
    }

    // 24
    private static void lacks() {
        LinesDownFilm x = new LinesDownFilm();
        x.print(5);
        x.print(4);
        paint(x, 0, 0, 1, 0, 1, 2, 4);
        paint(x, 0, 3, 1, 4);
        paint(x, 0, 1, 0, 0, 1);
        due("by none", x.lacks(0, NONE, 0), 5);
        due("by none, with a cost", x.lacks(0, NONE, 99), 104);
        due("a frame is lacking, and all marks", x.lacks(0, 1, 0), 5 + 8);
        due("the cost is not for these", x.lacks(0, 1, 99), 5 + 8);
        x.mark(1, 0, 0, 0, true);
        due("a black one will do", x.lacks(0, 1, 0), 4 + 8);
        x.mark(1, 1, 0, 1, true);
        due("a white one will do", x.lacks(0, 1, 0), 3 + 8);
        x.mark(1, 1, 0, 0, true);
        due("both do once", x.lacks(0, 1, 0), 3 + 8);
        x.mark(1, 2, 1, 0, true);
        due("on another side it won't", x.lacks(0, 1, 0), 3 + 8);
        x.mend(1, 0, 0);
        due("by frame, not by place", x.lacks(0, 1, 0), 4 + 16);
        due("the other way", x.lacks(1, 0, 0), 0);
        due("the other way by none", x.lacks(1, NONE, 7), 8);
        unchanged("lacks refused", x, o -> {
            due("lacks: q 2", o.lacks(2, 0, 0), UNKNOWN);
            due("lacks: q -1", o.lacks(-1, 0, 0), UNKNOWN);
            due("lacks: both NONE", o.lacks(-1, -1, 0), UNKNOWN);
            due("lacks: p 2", o.lacks(0, 2, 100), UNKNOWN);
            due("lacks: p -2", o.lacks(0, -2, 0), UNKNOWN);
            due("lacks: the same", o.lacks(1, 1, -1), UNKNOWN);
            due("lacks: cost -1", o.lacks(0, 1, -1), OUTSIDE);
            due("lacks: cost 100", o.lacks(0, 1, 100), OUTSIDE);
            due("lacks: cost 100 by none", o.lacks(0, NONE, 100), OUTSIDE);
        });
    }

    // 25
    private static void tree() {
        LinesDownFilm x = new LinesDownFilm();
        due("tree: no prints", x.tree(0, 0), STATE);
        due("tree: OUTSIDE ahead of STATE", x.tree(100, 0), OUTSIDE);
        due("tree: of prints that there are, ahead of STATE", x.tree(0, 1), OUTSIDE);
        x.print(3);
        paint(x, 0, 0, 0, 0, 1);
        x.copy(0);
        paint(x, 1, 1, 0, 2);
        x.copy(1);
        paint(x, 2, 2, 0, 1);
        // 0 has no white marks; 1 lacks 0 from 0 and from 2, 2 from none; 2 lacks 0 from 1, 1 from 0, 3 from none
        due("one from none", x.tree(5, 0), 5);
        due("0 from none", x.tree(5, 1), NONE);
        due("1 from 0", x.tree(5, 2), 0);
        due("2 from 1", x.tree(0, 3), 1);
        due("tree: cost -1", x.tree(-1, 0), OUTSIDE);
        due("tree: cost 100", x.tree(100, 1), OUTSIDE);
        due("tree: what -1", x.tree(0, -1), OUTSIDE);
        due("tree: what 4 of three", x.tree(0, 4), OUTSIDE);
        due("tree: what 7", x.tree(0, 7), OUTSIDE);
        due("done four times", x.count(6), 4);
    }

    private static void treeLikeOnes() {
        LinesDownFilm x = new LinesDownFilm();
        for (int i = 0; i < 6; i++) {
            x.print(1);
        }
        // all are clean: all lack nothing from each other; the first are from the least that they can
        due("like ones cost 0: together", x.tree(0, 0), 0);
        int[] from = {1, 2, 3, 4, 5, NONE};
        due("0 from 1", x.tree(0, 1), from[0]);
        due("1 from 2", x.tree(0, 2), from[1]);
        LinesDownFilm y = new LinesDownFilm();
        for (int i = 0; i < 3; i++) {
            y.print(1);
        }
        due("three: 0 from 1", y.tree(0, 1), 1);
        due("three: 1 from 2, as 0 would be a ring", y.tree(0, 2), 2);
        due("three: 2 from none", y.tree(0, 3), NONE);
        LinesDownFilm z = new LinesDownFilm();
        z.print(2);
        z.print(2);
        paint(z, 0, 0, 1, 0);
        paint(z, 1, 1, 1, 0);
        // each lacks 1 from the other, and 1 and the cost from none
        due("two: together", z.tree(3, 0), 5);
        due("two: a print ahead of none", z.tree(3, 1), 1);
        due("two: then none", z.tree(3, 2), NONE);
        due("alone", one(), 4);
    }

    private static int one() {
        LinesDownFilm x = new LinesDownFilm();
        x.print(2);
        paint(x, 0, 0, 1, 0, 1);
        due("alone: from none", x.tree(2, 1), NONE);
        return x.tree(2, 0);
    }

    private static void treeLimit() {
        LinesDownFilm x = new LinesDownFilm();
        x.print(2);
        x.image();
        for (int i = 0; i < 12; i++) {
            x.tree(i, 7);
            due("refusals do not count", x.count(6), i);
            due("tree " + i, x.tree(i, 0), i);
            if (i == 5) {
                x.restore();
            }
        }
        due("twelve times", x.count(6), 12);
        unchanged("the thirteenth", x, o -> {
            due("the thirteenth", o.tree(0, 0), STATE);
            due("OUTSIDE ahead of it", o.tree(0, 3), OUTSIDE);
        });
        x.restore();
        due("restore does not give more", x.tree(0, 0), STATE);
        due("still twelve", x.count(6), 12);
    }

    // 26
    private static void whole() {
        LinesDownFilm x = new LinesDownFilm();
        x.print(4);
        x.print(4);
        paint(x, 0, 0, 0, 1, 2);
        paint(x, 0, 1, 1, 1);
        paint(x, 1, 0, 0, 0, 3);
        // print 0 has 0, 2, 1, 0 marks, print 1 has 1, 0, 0, 1
        due("no switch cost: all clean", x.whole(4, 0, 0), 0);
        int[] free = {0, 1, 1, 0};
        int[] one = {0, 1, 1, 0};
        int[] two = {1, 1, 1, 1};
        for (int f = 0; f < 4; f++) {
            due("free " + f, x.whole(4, 0, 10 + f), free[f]);
            due("for 1 each " + f, x.whole(4, 1, 10 + f), f == 0 ? 0 : f == 3 ? 0 : one[f]);
            due("for 2 each " + f, x.whole(4, 2, 10 + f), two[f]);
        }
        // 0 1 1 0 with two changes, 0 1 1 1 with one and a mark, 1 1 1 1 with two marks: like ones, the first FRAME's least
        due("1 a switch: together", x.whole(4, 1, 0), 2);
        due("2 a switch: together", x.whole(4, 2, 0), 2);
        due("99 a switch: together", x.whole(4, 99, 0), 2);
        due("fewer frames", x.whole(2, 99, 0), 1);
        due("one frame", x.whole(1, 99, 0), 0);
        x.mark(1, 0, 0, 1, true);
        due("black and white both count", x.whole(4, 99, 0), 3);
        due("like ones: the least print", x.whole(4, 99, 10), 0);
        due("like ones: then, too", x.whole(4, 99, 13), 0);
    }

    private static void wholeLeftOut() {
        LinesDownFilm x = new LinesDownFilm();
        x.print(6);
        x.print(6);
        x.mend(0, 1, 3);
        x.mend(1, 2, 4);
        // 0 has 0, 4, 5; 1 has 0, 1, 5: nobody has 2, 3
        due("left out", x.whole(6, 5, 1), 2);
        due("left out of eight", x.whole(8, 5, 1), 4);
        due("left out of two", x.whole(2, 5, 1), 0);
        due("2 from none", x.whole(6, 5, 12), NONE);
        due("7 from none", x.whole(8, 5, 17), NONE);
        // 0 and 1 from print 1, then 4 and 5 from print 0: one change
        due("one change over the gap", x.whole(6, 5, 0), 5);
        due("0 from 1", x.whole(6, 5, 10), 1);
        due("1 from 1", x.whole(6, 5, 11), 1);
        due("4 from 0", x.whole(6, 5, 14), 0);
        due("5 from 0", x.whole(6, 5, 15), 0);
        due("up to the gap", x.whole(4, 5, 0), 0);
        LinesDownFilm y = new LinesDownFilm();
        y.print(4);
        y.mend(0, 0, 2);
        y.mark(0, 0, 1, 0, true);
        due("none can be had", y.whole(3, 5, 0), 0);
        due("none can be had: all left out", y.whole(3, 5, 1), 3);
        due("the first are left out", y.whole(4, 5, 0), 1);
        due("no change behind a gap at the start", y.whole(4, 99, 13), 0);
    }

    private static void wholeRefusals() {
        LinesDownFilm x = new LinesDownFilm();
        due("whole: no prints", x.whole(1, 0, 0), STATE);
        due("whole: OUTSIDE ahead of STATE", x.whole(0, 0, 0), OUTSIDE);
        x.print(48);
        due("whole: 48", x.whole(48, 99, 57), 0);
        unchanged("whole", x, o -> {
            due("whole: n 0", o.whole(0, 0, 0), OUTSIDE);
            due("whole: n 49", o.whole(49, 0, 0), OUTSIDE);
            due("whole: cost -1", o.whole(1, -1, 0), OUTSIDE);
            due("whole: cost 100", o.whole(1, 100, 0), OUTSIDE);
            due("whole: what -1", o.whole(1, 0, -1), OUTSIDE);
            due("whole: what 2", o.whole(1, 0, 2), OUTSIDE);
            due("whole: what 9", o.whole(1, 0, 9), OUTSIDE);
            due("whole: what 11 of one", o.whole(1, 0, 11), OUTSIDE);
            due("whole: what 58", o.whole(48, 0, 58), OUTSIDE);
            due("whole: what highest", o.whole(48, 0, HIGH), OUTSIDE);
        });
    }

    // 27
    private static void left() {
        LinesDownFilm x = new LinesDownFilm();
        x.print(3);
        paint(x, 0, 0, 0, 0, 1);
        paint(x, 0, 0, 1, 1);
        paint(x, 0, 5, 1, 2);
        due("alone: all are left, a side once", x.left(0), 3);
        x.print(3);
        due("one other that is clean", x.left(0), 3);
        x.print(3);
        due("two others that are clean", x.left(0), 0);
        paint(x, 1, 0, 1, 0);
        due("one of two is clean on a side", x.left(0), 1);
        due("the other's own", x.left(1), 1);
        due("a clean one's", x.left(2), 0);
        x.mend(2, 2, 2);
        due("one of the two has the frame", x.left(0), 2);
        x.mend(2, 0, 0);
        due("by frame, not by place", x.left(0), 2);
        x.print(3);
        due("a third", x.left(0), 1);
        paint(x, 3, 0, 0, 0);
        due("the third has one, too", x.left(0), 1);
        x.mark(3, 0, 0, 0, false);
        x.mark(1, 0, 0, 1, false);
        due("two that have the frame are clean", x.left(0), 0);
        due("left: print 4", x.left(4), UNKNOWN);
        due("left: print -1", x.left(-1), UNKNOWN);
    }

    // 28, 29
    private static void imageAndRestore() {
        LinesDownFilm x = new LinesDownFilm();
        unchanged("restore of none", x, o -> due("restore of none", o.restore(), STATE));
        due("image of none", x.image(), 0);
        x.print(3);
        due("back to none", x.restore(), 0);
        due("no prints", x.count(0), 0);
        x.print(5);
        x.print(7);
        x.mark(0, 1, 2, 0, true);
        x.mark(0, 2, 2, 1, true);
        x.mend(1, 2, 3);
        x.trace(3, 5);
        x.trace(4, 6);
        due("image of two", x.image(), 2);
        long kept = x.digest();
        x.mark(0, 1, 2, 0, false);
        x.mark(0, 2, 2, 1, false);
        x.mend(0, 3, 4);
        x.copy(1);
        x.clear();
        x.trace(1, 1 + 1);
        due("restore", x.restore(), 2);
        due("all is as it was", x.digest(), kept);
        due("the mended one", x.picture(1, 2, 0), 4);
        x.mend(1, 0, 3);
        x.mark(0, 0, 0, 0, true);
        due("restore again", x.restore(), 2);
        due("all is as it was again", x.digest(), kept);
        due("the place of a frame, too", x.lacks(0, 1, 0), 1 + 2 * 8);
        due("machines stay", machine(x, "g1"), 0);
        Typing.type(x, "g2,");
        x.tree(0, 0);
        x.restore();
        due("the machine stays", x.count(1), 1);
        due("the page stays", x.count(5), 3);
        due("how often tree() was done stays", x.count(6), 1);
        x.run(0, 0, false);
        due("the latest image", x.image(), 2);
        x.mark(0, 0, 1, 0, false);
        x.restore();
        due("the latest image's mark", x.picture(0, 0, 1), 2);
        due("print behind restore", x.print(4), 2);
        due("restore takes it away", x.restore(), 2);
        due("it is gone", x.length(2), UNKNOWN);
        due("a print behind that is clean", x.print(2), 2);
        due("and short", x.length(2), 2);
    }

    // 30
    private static void count() {
        LinesDownFilm x = new LinesDownFilm();
        machine(x, "g0,g1");
        x.print(5);
        x.print(6);
        x.run(0, 0, false);
        x.copy(0);
        x.mark(0, 0, 0, 1, true);
        x.trace(0, 2);
        Typing.type(x, "r0o");
        x.tree(0, 0);
        int[] told = {3, 1, 16, 21, 1, 3, 1};
        for (int what = 0; what <= 6; what++) {
            due("count " + what, x.count(what), told[what]);
        }
        due("count -1", x.count(-1), OUTSIDE);
        due("count 7", x.count(7), OUTSIDE);
        due("count lowest", x.count(LOW), OUTSIDE);
    }

    // 31
    private static void digest() {
        LinesDownFilm x = new LinesDownFilm();
        due("digest of a new one", x.digest(), told(463, 0, 0, 0, 0, 0, 0, 0));
        machine(x, "g3,t1o5p2");
        machine(x, "w2o4p1");
        long h = told(463, 1, 3, -1, -1, 3, 1, 5, 2, 4, 2, 4, 1);
        due("digest of machines", x.digest(), told(h, 0, 2, 0, 0, 0, 0, 0));
        x.print(3);
        x.mark(0, 0, 0, 0, true);
        x.mark(0, 2, 0, 1, true);
        x.mark(0, 2, 3, 1, true);
        x.print(1);
        x.mark(1, 0, 3, 0, true);
        x.trace(6, 9);
        x.trace(2, 3);
        Typing.type(x, "w~");
        x.tree(9, 0);
        // print 0: round 2 by 0 and 2; machine 1 (its marks lie behind the end): bit 1; three marked sides are left
        h = told(h, 3, 0, 1, 0, 1, 0, 0, 2, 0, 9, 4, 2, 3);
        // print 1: no rounds; both machines; its one marked side is left
        h = told(h, 1, 0, 8, 0, 0, 3, 1);
        h = told(h, 6, 9, 2, 3, 'w', '~');
        due("digest of all", x.digest(), told(h, 2, 2, 4, 4, 2, 2, 1));
        due("digest changes nothing", x.digest(), told(h, 2, 2, 4, 4, 2, 2, 1));
    }

    private static long told(long h, long... numbers) {
        for (long number : numbers) {
            h = 31 * h + number;
        }
        return h;
    }
}
