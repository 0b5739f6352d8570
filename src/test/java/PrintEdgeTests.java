/** The boundaries that promises 8 to 14 name: prints, what runs, mendings and copies make of them. */
public final class PrintEdgeTests {
    private static final int UNKNOWN = Edges.UNKNOWN, OUTSIDE = Edges.OUTSIDE, FULL = Edges.FULL;
    private static final int LOW = Edges.LOW, HIGH = Edges.HIGH;
    private static final Edges EDGES = new Edges("PrintEdgeTests", 8, 14);

    public static void main(String[] args) {
        printLet();
        printRefused();
        runGate();
        runRoller();
        runToothed();
        runWound();
        runBack();
        runNew();
        runRefused();
        mendLet();
        mendRefused();
        copyMade();
        copyRefused();
        markPut();
        markRefused();
        length();
        pictureTold();
        pictureRefused();
        EDGES.close();
    }

    private static void due(String what, long got, long want) {
        EDGES.due(what, got, want);
    }

    private static long all(int n) {
        return (1L << n) - 1;
    }

    /** A print of n, run through a machine of one part on side 0: how many are new, and where they are. */
    private static void leaves(String text, int n, boolean back, int... pictures) {
        LinesDownFilm x = new LinesDownFilm();
        Typing.machine(x, text);
        x.print(n);
        String call = text + " on " + n + (back ? " back" : "");
        due(call, x.run(0, 0, back), pictures.length);
        due(call + ": where", Edges.marked(x, 0, 0, 1), Edges.bits(pictures));
        due(call + ": marks of all", x.count(3), pictures.length);
    }

    private static void printLet() {
        EDGES.test(8, "n is 1 at least", x -> {
            due("print(1)", x.print(1), 0);
            due("length", x.length(0), 1);
            due("frame", x.picture(0, 0, 0), 0);
            due("picture 1", x.picture(0, 1, 0), UNKNOWN);
        });
        EDGES.test(8, "n is 48 at most, FRAMES 0 to n less 1", x -> {
            due("print(48)", x.print(48), 0);
            due("length", x.length(0), 48);
            for (int i = 0; i < 48; i++) {
                due("frame " + i, x.picture(0, i, 0), i);
            }
            due("picture 48", x.picture(0, 48, 0), UNKNOWN);
        });
        EDGES.test(8, "without MARKS", x -> {
            x.print(48);
            for (int i = 0; i < 48; i++) {
                due("black ones of " + i, x.picture(0, i, 1), 0);
                due("white ones of " + i, x.picture(0, i, 2), 0);
            }
            due("marks", x.count(3), 0);
        });
        EDGES.test(8, "its number: 0 to 5", x -> {
            for (int i = 0; i < 6; i++) {
                due("print " + i, x.print(i + 1), i);
                due("prints", x.count(0), i + 1);
            }
            for (int i = 0; i < 6; i++) {
                due("length of " + i, x.length(i), i + 1);
            }
        });
        EDGES.test(8, "FRAMES and no MARKS, where there was one that restore() took away", x -> {
            Typing.machine(x, "g0,g7");
            x.image();
            x.print(48);
            x.run(0, 0, false);
            for (int i = 0; i < 48; i++) {
                x.mark(0, i, 1, 1, true);
            }
            x.mend(0, 0, 9);
            x.restore();
            due("its number", x.print(9), 0);
            for (int i = 0; i < 9; i++) {
                due("frame " + i, x.picture(0, i, 0), i);
                due("black ones of " + i, x.picture(0, i, 1), 0);
                due("white ones of " + i, x.picture(0, i, 2), 0);
            }
            due("which frames it has", x.whole(48, 0, 1), 39);
        });
    }

    private static void printRefused() {
        EDGES.test(8, "OUTSIDE: n is 1 to 48", x -> {
            EDGES.refused(x, "print(0)", OUTSIDE, () -> x.print(0));
            for (int n : Edges.around(49)) {
                EDGES.refused(x, "print(" + n + ")", OUTSIDE, () -> x.print(n));
            }
            due("prints", x.count(0), 0);
        });
        EDGES.test(8, "FULL: a seventh", x -> {
            for (int i = 0; i < 6; i++) {
                x.print(2);
            }
            EDGES.refused(x, "the seventh of 1", FULL, () -> x.print(1));
            EDGES.refused(x, "the seventh of 48", FULL, () -> x.print(48));
            due("prints", x.count(0), 6);
            due("print 6", x.length(6), UNKNOWN);
        });
        EDGES.test(8, "FULL: a seventh, where the sixth is a copy", x -> {
            for (int i = 0; i < 5; i++) {
                x.print(2);
            }
            x.copy(0);
            EDGES.refused(x, "the seventh", FULL, () -> x.print(1));
        });
        EDGES.test(8, "OUTSIDE ahead of FULL", x -> {
            for (int i = 0; i < 6; i++) {
                x.print(2);
            }
            EDGES.refused(x, "print(0)", OUTSIDE, () -> x.print(0));
            EDGES.refused(x, "print(49)", OUTSIDE, () -> x.print(49));
        });
    }

    private static void runGate() {
        EDGES.test(9, "a GATE of all", x -> {
            leaves("g0", 1, false, 0);
            leaves("g0", 3, false, 0, 1, 2);
        });
        EDGES.test(9, "a GATE of all: of as many as there may be", x -> {
            Typing.machine(x, "g7");
            x.print(48);
            due("run", x.run(0, 0, false), 48);
            due("where", Edges.marked(x, 0, 7, 1), all(48));
        });
        EDGES.test(9, "on its SIDE", x -> {
            Typing.machine(x, "g0,g2,g5,g7");
            x.print(1);
            due("run", x.run(0, 0, false), 4);
            due("sides", x.picture(0, 0, 1), 1 | 4 | 32 | 128);
        });
    }

    private static void runRoller() {
        EDGES.test(9, "a ROLLER where i's rest by ROUND is PHASE: the least ROUND", x -> {
            leaves("r0o2p0", 5, false, 0, 2, 4);
            leaves("r0o2p1", 5, false, 1, 3);
        });
        EDGES.test(9, "a ROLLER where i's rest by ROUND is PHASE: the greatest ROUND", x -> {
            leaves("r0o19p0", 48, false, 0, 19, 38);
            leaves("r0o19p18", 48, false, 18, 37);
            leaves("r0o19p9", 48, false, 9, 28, 47);
        });
        EDGES.test(9, "a ROLLER: the last PICTURE is one, or none", x -> {
            leaves("r0o5p4", 4, false);
            leaves("r0o5p4", 5, false, 4);
            leaves("r0o5p4", 9, false, 4);
            leaves("r0o5p4", 10, false, 4, 9);
        });
        EDGES.test(9, "a ROLLER: one PICTURE", x -> {
            leaves("r0o2p0", 1, false, 0);
            leaves("r0o2p1", 1, false);
        });
    }

    private static void runToothed() {
        EDGES.test(9, "a TOOTHED just at each second one: the first, the third", x -> {
            leaves("t0o3p1", 1, false);
            leaves("t0o3p1", 2, false, 1);
            leaves("t0o3p1", 5, false, 1);
            leaves("t0o3p1", 7, false, 1);
            leaves("t0o3p1", 8, false, 1, 7);
            leaves("t0o3p1", 14, false, 1, 7, 13);
        });
        EDGES.test(9, "a TOOTHED: the least ROUND", x -> {
            leaves("t0o2p0", 10, false, 0, 4, 8);
            leaves("t0o2p1", 10, false, 1, 5, 9);
        });
        EDGES.test(9, "a TOOTHED: the greatest ROUND", x -> {
            leaves("t0o19p0", 38, false, 0);
            leaves("t0o19p0", 39, false, 0, 38);
            leaves("t0o19p18", 48, false, 18);
        });
        EDGES.test(9, "a TOOTHED has its first one there at each RUN", x -> {
            Typing.machine(x, "t0o3p1");
            x.print(8);
            due("once", x.run(0, 0, false), 2);
            due("twice", x.run(0, 0, false), 0);
            due("where", Edges.marked(x, 0, 0, 1), Edges.bits(1, 7));
        });
    }

    private static void runWound() {
        EDGES.test(9, "a WOUND at FIRST", x -> {
            leaves("w0o1p0", 1, false);
            leaves("w0o1p0", 2, false, 1);
            leaves("w0o19p0", 19, false);
            leaves("w0o19p0", 20, false, 19);
        });
        EDGES.test(9, "a WOUND: each way THICK longer than the one ahead", x -> {
            leaves("w0o1p1", 48, false, 1, 3, 6, 10, 15, 21, 28, 36, 45);
            leaves("w0o3p2", 48, false, 3, 8, 15, 24, 35);
            leaves("w0o1p9", 48, false, 1, 11, 30);
            leaves("w0o19p9", 48, false, 19, 47);
        });
        EDGES.test(9, "a WOUND: no THICK, and ways that are alike", x -> {
            leaves("w0o3p0", 10, false, 3, 6, 9);
            leaves("w0o1p0", 4, false, 1, 2, 3);
        });
        EDGES.test(9, "a WOUND of no THICK has PICTURE 1 to the last by FIRST 1", x -> {
            Typing.machine(x, "w0o1p0");
            x.print(48);
            due("run", x.run(0, 0, false), 47);
            due("where", Edges.marked(x, 0, 0, 1), all(48) - 1);
        });
        EDGES.test(9, "a WOUND: the last PICTURE is one, or just none", x -> {
            leaves("w0o2p1", 5, false, 2);
            leaves("w0o2p1", 6, false, 2, 5);
            leaves("w0o2p1", 9, false, 2, 5);
            leaves("w0o2p1", 10, false, 2, 5, 9);
            leaves("w0o19p9", 47, false, 19);
        });
    }

    private static void runBack() {
        EDGES.test(9, "back: PICTURE n less 1 less i in place of i: a GATE", x -> {
            leaves("g0", 1, true, 0);
            leaves("g0", 4, true, 0, 1, 2, 3);
        });
        EDGES.test(9, "back: PICTURE n less 1 less i in place of i: a ROLLER", x -> {
            leaves("r0o2p0", 1, true, 0);
            leaves("r0o5p0", 8, true, 7, 2);
            leaves("r0o5p4", 8, true, 3);
            leaves("r0o5p4", 10, true, 5, 0);
            leaves("r0o19p18", 48, true, 29, 10);
        });
        EDGES.test(9, "back: PICTURE n less 1 less i in place of i: a TOOTHED", x -> {
            leaves("t0o3p1", 8, true, 6, 0);
            leaves("t0o3p1", 14, true, 12, 6, 0);
            leaves("t0o3p1", 11, true, 9, 3);
            leaves("t0o3p1", 5, true, 3);
            leaves("t0o19p0", 39, true, 38, 0);
        });
        EDGES.test(9, "back: PICTURE n less 1 less i in place of i: a WOUND", x -> {
            leaves("w0o2p1", 9, true, 6, 3);
            leaves("w0o2p1", 10, true, 7, 4, 0);
            leaves("w0o1p0", 1, true);
            leaves("w0o19p9", 48, true, 28, 0);
        });
        EDGES.test(9, "back: by how many PICTURES there are now", x -> {
            Typing.machine(x, "r0o4p0");
            x.print(12);
            x.mend(0, 2, 4);
            due("run", x.run(0, 0, true), 3);
            due("where", Edges.marked(x, 0, 0, 1), Edges.bits(8, 4, 0));
        });
    }

    private static void runNew() {
        EDGES.test(9, "how many MARKS are new: a MARK that is there already stays", x -> {
            Typing.machine(x, "g0");
            x.print(5);
            Edges.paint(x, 0, 0, 0, 0, 4);
            due("three of five", x.run(0, 0, false), 3);
            due("none", x.run(0, 0, false), 0);
            due("none back", x.run(0, 0, true), 0);
            due("all are there", Edges.marked(x, 0, 0, 1), all(5));
        });
        EDGES.test(9, "how many MARKS are new: PARTS on the same PICTURES", x -> {
            Typing.machine(x, "g0,g0,r0o2p0,w0o1p0");
            x.print(6);
            due("each once", x.run(0, 0, false), 6);
        });
        EDGES.test(9, "how many MARKS are new: PARTS on SIDES of their own", x -> {
            Typing.machine(x, "g0,g1,r2o2p0,w3o1p0");
            x.print(6);
            due("each for itself", x.run(0, 0, false), 6 + 6 + 3 + 5);
        });
        EDGES.test(9, "a BLACK MARK: a WHITE one there is another, and stays", x -> {
            Typing.machine(x, "g0");
            x.print(3);
            Edges.paint(x, 0, 0, 1, 0, 1, 2);
            due("new", x.run(0, 0, false), 3);
            due("white ones", Edges.marked(x, 0, 0, 2), all(3));
            due("marks", x.count(3), 6);
        });
        EDGES.test(9, "a RUN is of its PRINT alone, and leaves FRAMES as they are", x -> {
            Typing.machine(x, "g0");
            x.print(3);
            x.print(3);
            x.mend(1, 0, 0);
            x.run(1, 0, false);
            due("the other one's", Edges.marked(x, 0, 0, 1), 0);
            due("frame", x.picture(1, 0, 0), 1);
            due("length", x.length(1), 2);
        });
    }

    private static void runRefused() {
        EDGES.test(9, "UNKNOWN: print", x -> {
            Typing.machine(x, "g0");
            EDGES.refused(x, "print 0 of none", UNKNOWN, () -> x.run(0, 0, false));
            x.print(2);
            x.print(2);
            for (int print : Edges.around(2)) {
                EDGES.refused(x, "print " + print, UNKNOWN, () -> x.run(print, 0, false));
                EDGES.refused(x, "print " + print + " back", UNKNOWN, () -> x.run(print, 0, true));
            }
            due("print 1", x.run(1, 0, false), 2);
        });
        EDGES.test(9, "UNKNOWN: machine", x -> {
            x.print(2);
            EDGES.refused(x, "machine 0 of none", UNKNOWN, () -> x.run(0, 0, false));
            Typing.machine(x, "g0");
            Typing.machine(x, "g1");
            for (int machine : Edges.around(2)) {
                EDGES.refused(x, "machine " + machine, UNKNOWN, () -> x.run(0, machine, false));
            }
            due("machine 1", x.run(0, 1, false), 2);
        });
        EDGES.test(9, "UNKNOWN: print and machine, where there are six", x -> {
            for (int i = 0; i < 6; i++) {
                Typing.machine(x, "g" + i);
                x.print(i + 1);
            }
            due("print 5, machine 5", x.run(5, 5, false), 6);
            EDGES.refused(x, "print 6", UNKNOWN, () -> x.run(6, 5, false));
            EDGES.refused(x, "machine 6", UNKNOWN, () -> x.run(5, 6, false));
            EDGES.refused(x, "both", UNKNOWN, () -> x.run(6, 6, false));
        });
    }

    private static void mendLet() {
        EDGES.test(10, "PICTURES a to b are taken out: the first one", x -> {
            x.print(4);
            due("mend", x.mend(0, 0, 0), 3);
            due("the first now", x.picture(0, 0, 0), 1);
            due("the last now", x.picture(0, 2, 0), 3);
        });
        EDGES.test(10, "PICTURES a to b are taken out: the last one", x -> {
            x.print(4);
            due("mend", x.mend(0, 3, 3), 3);
            due("the first now", x.picture(0, 0, 0), 0);
            due("the last now", x.picture(0, 2, 0), 2);
        });
        EDGES.test(10, "PICTURES a to b are taken out: all but the first", x -> {
            x.print(48);
            due("mend", x.mend(0, 1, 47), 1);
            due("frame", x.picture(0, 0, 0), 0);
            due("picture 1", x.picture(0, 1, 0), UNKNOWN);
        });
        EDGES.test(10, "PICTURES a to b are taken out: all but the last", x -> {
            x.print(48);
            due("mend", x.mend(0, 0, 46), 1);
            due("frame", x.picture(0, 0, 0), 47);
            due("picture 1", x.picture(0, 1, 0), UNKNOWN);
        });
        EDGES.test(10, "those behind come next to those ahead, with their MARKS", x -> {
            x.print(7);
            Edges.paint(x, 0, 3, 0, 1, 2, 4, 5);
            Edges.paint(x, 0, 6, 1, 0, 3, 5);
            due("mend", x.mend(0, 2, 4), 4);
            int[] frames = {0, 1, 5, 6};
            for (int i = 0; i < 4; i++) {
                due("frame of " + i, x.picture(0, i, 0), frames[i]);
            }
            due("black ones", Edges.marked(x, 0, 3, 1), Edges.bits(1, 2));
            due("white ones", Edges.marked(x, 0, 6, 2), Edges.bits(0, 2));
            due("marks", x.count(3), 4);
            due("pictures", x.count(2), 4);
        });
        EDGES.test(10, "how many PICTURES it has then: down to one", x -> {
            x.print(3);
            due("of three", x.mend(0, 1, 1), 2);
            due("of two", x.mend(0, 1, 1), 1);
            EDGES.refused(x, "of one", OUTSIDE, () -> x.mend(0, 0, 0));
            due("length", x.length(0), 1);
        });
        EDGES.test(10, "of its PRINT alone", x -> {
            x.print(5);
            x.print(5);
            x.mend(0, 1, 2);
            due("the other one's length", x.length(1), 5);
            due("the other one's frame", x.picture(1, 1, 0), 1);
        });
    }

    private static void mendRefused() {
        EDGES.test(10, "UNKNOWN", x -> {
            EDGES.refused(x, "print 0 of none", UNKNOWN, () -> x.mend(0, 0, 0));
            x.print(4);
            for (int print : Edges.around(1)) {
                EDGES.refused(x, "print " + print, UNKNOWN, () -> x.mend(print, 1, 2));
            }
        });
        EDGES.test(10, "OUTSIDE: a and b are PICTURES that there are", x -> {
            x.print(6);
            for (int a : Edges.BELOW) {
                EDGES.refused(x, "a " + a, OUTSIDE, () -> x.mend(0, a, 2));
            }
            for (int b : Edges.above(6)) {
                EDGES.refused(x, "b " + b, OUTSIDE, () -> x.mend(0, 2, b));
                EDGES.refused(x, "a and b " + b, OUTSIDE, () -> x.mend(0, b, b));
            }
            EDGES.refused(x, "both below", OUTSIDE, () -> x.mend(0, -2, -1));
            EDGES.refused(x, "from below to all", OUTSIDE, () -> x.mend(0, -1, 5));
            EDGES.refused(x, "from the lowest to the highest", OUTSIDE, () -> x.mend(0, LOW, HIGH));
            EDGES.refused(x, "from the highest to the lowest", OUTSIDE, () -> x.mend(0, HIGH, LOW));
            due("length", x.length(0), 6);
        });
        EDGES.test(10, "OUTSIDE: PICTURES that there are now, not those that there were", x -> {
            x.print(6);
            x.mend(0, 0, 1);
            EDGES.refused(x, "b 4", OUTSIDE, () -> x.mend(0, 3, 4));
            due("b 3", x.mend(0, 3, 3), 3);
        });
        EDGES.test(10, "OUTSIDE: a is not above b", x -> {
            x.print(6);
            EDGES.refused(x, "a is b and 1", OUTSIDE, () -> x.mend(0, 3, 2));
            EDGES.refused(x, "a is the last, b the first", OUTSIDE, () -> x.mend(0, 5, 0));
            EDGES.refused(x, "a is 0, b below", OUTSIDE, () -> x.mend(0, 0, -1));
            due("a is b", x.mend(0, 3, 3), 5);
        });
        EDGES.test(10, "OUTSIDE: not all of them", x -> {
            x.print(1);
            x.print(2);
            x.print(48);
            EDGES.refused(x, "all of one", OUTSIDE, () -> x.mend(0, 0, 0));
            EDGES.refused(x, "all of two", OUTSIDE, () -> x.mend(1, 0, 1));
            EDGES.refused(x, "all of 48", OUTSIDE, () -> x.mend(2, 0, 47));
        });
        EDGES.test(10, "UNKNOWN ahead of OUTSIDE", x -> {
            x.print(4);
            EDGES.refused(x, "print and a", UNKNOWN, () -> x.mend(1, -1, 2));
            EDGES.refused(x, "print and all", UNKNOWN, () -> x.mend(-1, 0, 3));
        });
    }

    private static void copyMade() {
        EDGES.test(11, "the same PICTURES: one", x -> {
            x.print(1);
            due("copy", x.copy(0), 1);
            due("length", x.length(1), 1);
            due("frame", x.picture(1, 0, 0), 0);
        });
        EDGES.test(11, "the same PICTURES: 48", x -> {
            x.print(48);
            due("copy", x.copy(0), 1);
            due("length", x.length(1), 48);
            for (int i = 0; i < 48; i++) {
                due("frame of " + i, x.picture(1, i, 0), i);
            }
        });
        EDGES.test(11, "the same PICTURES: of a mended one", x -> {
            x.print(5);
            x.mend(0, 0, 1);
            x.copy(0);
            for (int i = 0; i < 3; i++) {
                due("frame of " + i, x.picture(1, i, 0), i + 2);
            }
            due("picture 3", x.picture(1, 3, 0), UNKNOWN);
        });
        EDGES.test(11, "each MARK is a WHITE one on the same SIDE; no BLACK ones", x -> {
            x.print(5);
            Edges.paint(x, 0, 0, 0, 0, 2);
            Edges.paint(x, 0, 7, 1, 1, 4);
            Edges.paint(x, 0, 3, 0, 3);
            Edges.paint(x, 0, 3, 1, 3);
            x.copy(0);
            int[] white = {1, 128, 1, 8, 128};
            for (int i = 0; i < 5; i++) {
                due("black ones of " + i, x.picture(1, i, 1), 0);
                due("white ones of " + i, x.picture(1, i, 2), white[i]);
            }
        });
        EDGES.test(11, "each MARK is a WHITE one: of all SIDES of all PICTURES", x -> {
            Typing.machine(x, "g0,g1,g2,g3");
            Typing.machine(x, "g4,g5,g6,g7");
            x.print(48);
            x.run(0, 0, false);
            x.run(0, 1, false);
            x.copy(0);
            due("the first one", x.picture(1, 0, 2), 255);
            due("the last one", x.picture(1, 47, 2), 255);
            due("marks of both", x.count(3), 2 * 8 * 48);
        });
        EDGES.test(11, "of one without MARKS", x -> {
            x.print(4);
            x.copy(0);
            due("marks", x.count(3), 0);
        });
        EDGES.test(11, "a new PRINT: the old one stays, each for itself", x -> {
            x.print(4);
            Edges.paint(x, 0, 2, 0, 1);
            x.copy(0);
            due("the old one's black one", x.picture(0, 1, 1), 4);
            due("the old one's white ones", x.picture(0, 1, 2), 0);
            x.mark(0, 0, 0, 0, true);
            x.mark(1, 3, 0, 0, true);
            x.mend(1, 0, 0);
            due("the old one's length", x.length(0), 4);
            due("the old one's last", x.picture(0, 3, 1), 0);
            due("the new one's first", x.picture(1, 0, 2), 4);
        });
        EDGES.test(11, "the number of the new one: up to 5", x -> {
            x.print(2);
            for (int i = 1; i < 6; i++) {
                due("copy " + i, x.copy(i - 1), i);
            }
            due("prints", x.count(0), 6);
        });
    }

    private static void copyRefused() {
        EDGES.test(11, "UNKNOWN", x -> {
            EDGES.refused(x, "print 0 of none", UNKNOWN, () -> x.copy(0));
            x.print(2);
            for (int print : Edges.around(1)) {
                EDGES.refused(x, "print " + print, UNKNOWN, () -> x.copy(print));
            }
            due("prints", x.count(0), 1);
        });
        EDGES.test(11, "FULL: a seventh", x -> {
            for (int i = 0; i < 5; i++) {
                x.print(2);
            }
            due("the sixth", x.copy(4), 5);
            for (int print = 0; print < 6; print++) {
                int old = print;
                EDGES.refused(x, "copy of " + print, FULL, () -> x.copy(old));
            }
            due("prints", x.count(0), 6);
        });
        EDGES.test(11, "UNKNOWN ahead of FULL", x -> {
            for (int i = 0; i < 6; i++) {
                x.print(2);
            }
            for (int print : Edges.around(6)) {
                EDGES.refused(x, "print " + print, UNKNOWN, () -> x.copy(print));
            }
        });
    }

    private static void markPut() {
        EDGES.test(12, "is there: 1; 0: it was so already", x -> {
            x.print(2);
            due("there", x.mark(0, 1, 3, 0, true), 1);
            due("there already", x.mark(0, 1, 3, 0, true), 0);
            due("marks", x.count(3), 1);
        });
        EDGES.test(12, "is gone: 1; 0: it was so already", x -> {
            x.print(2);
            due("gone already", x.mark(0, 1, 3, 0, false), 0);
            x.mark(0, 1, 3, 0, true);
            due("gone", x.mark(0, 1, 3, 0, false), 1);
            due("gone already, again", x.mark(0, 1, 3, 0, false), 0);
            due("marks", x.count(3), 0);
        });
        EDGES.test(12, "SIDES 0 to 7, each for itself", x -> {
            x.print(2);
            for (int side = 0; side <= 7; side++) {
                due("side " + side, x.mark(0, 1, side, 0, true), 1);
                due("sides up to " + side, x.picture(0, 1, 1), (2 << side) - 1);
            }
            for (int side = 0; side <= 7; side++) {
                due("side " + side + " is gone", x.mark(0, 1, side, 0, false), 1);
                due("sides behind " + side, x.picture(0, 1, 1), 256 - (2 << side));
            }
            due("the other picture", x.picture(0, 0, 1), 0);
        });
        EDGES.test(12, "sort 0 BLACK, 1 WHITE, each for itself", x -> {
            x.print(1);
            due("black", x.mark(0, 0, 5, 0, true), 1);
            due("no white one", x.picture(0, 0, 2), 0);
            due("white", x.mark(0, 0, 5, 1, true), 1);
            due("black gone", x.mark(0, 0, 5, 0, false), 1);
            due("white stays", x.picture(0, 0, 2), 32);
            due("no black one", x.picture(0, 0, 1), 0);
            due("white gone", x.mark(0, 0, 5, 1, false), 1);
            due("none", x.picture(0, 0, 2), 0);
        });
        EDGES.test(12, "the first and the last PICTURE", x -> {
            x.print(48);
            due("the first", x.mark(0, 0, 7, 1, true), 1);
            due("the last", x.mark(0, 47, 7, 1, true), 1);
            due("where", Edges.marked(x, 0, 7, 2), 1L << 47 | 1);
        });
    }

    private static void markRefused() {
        EDGES.test(12, "UNKNOWN: print", x -> {
            EDGES.refused(x, "print 0 of none", UNKNOWN, () -> x.mark(0, 0, 0, 0, true));
            x.print(3);
            for (int print : Edges.around(1)) {
                EDGES.refused(x, "print " + print, UNKNOWN, () -> x.mark(print, 0, 0, 0, true));
            }
        });
        EDGES.test(12, "UNKNOWN: picture", x -> {
            x.print(3);
            for (int picture : Edges.around(3)) {
                EDGES.refused(x, "picture " + picture, UNKNOWN, () -> x.mark(0, picture, 0, 0, true));
            }
            due("picture 2", x.mark(0, 2, 0, 0, true), 1);
        });
        EDGES.test(12, "UNKNOWN: a picture that is taken out", x -> {
            x.print(3);
            x.mend(0, 0, 0);
            EDGES.refused(x, "picture 2", UNKNOWN, () -> x.mark(0, 2, 0, 0, true));
            due("picture 1", x.mark(0, 1, 0, 0, true), 1);
        });
        EDGES.test(12, "UNKNOWN: a picture that only another print has", x -> {
            x.print(3);
            x.print(5);
            EDGES.refused(x, "picture 4 of three", UNKNOWN, () -> x.mark(0, 4, 0, 0, true));
            due("picture 4 of five", x.mark(1, 4, 0, 0, true), 1);
        });
        EDGES.test(12, "OUTSIDE: side is 0 to 7", x -> {
            x.print(3);
            for (int side : Edges.around(8)) {
                EDGES.refused(x, "side " + side, OUTSIDE, () -> x.mark(0, 0, side, 0, true));
                EDGES.refused(x, "side " + side + " gone", OUTSIDE, () -> x.mark(0, 0, side, 1, false));
            }
        });
        EDGES.test(12, "OUTSIDE: sort is 0 or 1", x -> {
            x.print(3);
            for (int sort : Edges.around(2)) {
                EDGES.refused(x, "sort " + sort, OUTSIDE, () -> x.mark(0, 0, 0, sort, true));
            }
        });
        EDGES.test(12, "UNKNOWN ahead of OUTSIDE", x -> {
            x.print(3);
            EDGES.refused(x, "print and side", UNKNOWN, () -> x.mark(1, 0, 8, 0, true));
            EDGES.refused(x, "print and sort", UNKNOWN, () -> x.mark(-1, 0, 0, 2, true));
            EDGES.refused(x, "picture and side", UNKNOWN, () -> x.mark(0, 3, -1, 0, true));
            EDGES.refused(x, "picture and sort", UNKNOWN, () -> x.mark(0, -1, 0, -1, true));
        });
    }

    private static void length() {
        EDGES.test(13, "how many PICTURES: 1 to 48", x -> {
            x.print(1);
            x.print(48);
            due("one", x.length(0), 1);
            due("48", x.length(1), 48);
        });
        EDGES.test(13, "how many PICTURES: mended, copied, restored", x -> {
            x.print(9);
            x.image();
            x.mend(0, 2, 5);
            due("mended", x.length(0), 5);
            x.copy(0);
            due("copied", x.length(1), 5);
            x.restore();
            due("restored", x.length(0), 9);
            due("the copy is gone", x.length(1), UNKNOWN);
        });
        EDGES.test(13, "UNKNOWN", x -> {
            EDGES.refused(x, "print 0 of none", UNKNOWN, () -> x.length(0));
            for (int n = 1; n <= 6; n++) {
                due("print", x.print(n), n - 1);
                due("the last one", x.length(n - 1), n);
                int next = n;
                EDGES.refused(x, "one behind " + n, UNKNOWN, () -> x.length(next));
            }
            for (int print : Edges.around(6)) {
                EDGES.refused(x, "print " + print, UNKNOWN, () -> x.length(print));
            }
        });
    }

    private static void pictureTold() {
        EDGES.test(14, "FRAME: 0 to 47", x -> {
            x.print(48);
            due("the first", x.picture(0, 0, 0), 0);
            due("the last", x.picture(0, 47, 0), 47);
        });
        EDGES.test(14, "BLACK MARKS and WHITE ones, bits of SIDES: none and all", x -> {
            x.print(2);
            for (int side = 0; side <= 7; side++) {
                x.mark(0, 0, side, 0, true);
                x.mark(0, 1, side, 1, true);
            }
            due("all black ones", x.picture(0, 0, 1), 255);
            due("no white ones", x.picture(0, 0, 2), 0);
            due("no black ones", x.picture(0, 1, 1), 0);
            due("all white ones", x.picture(0, 1, 2), 255);
        });
        EDGES.test(14, "bits of SIDES: the least SIDE and the greatest", x -> {
            x.print(1);
            x.mark(0, 0, 0, 0, true);
            x.mark(0, 0, 7, 1, true);
            due("side 0", x.picture(0, 0, 1), 1);
            due("side 7", x.picture(0, 0, 2), 128);
        });
    }

    private static void pictureRefused() {
        EDGES.test(14, "UNKNOWN: print", x -> {
            EDGES.refused(x, "print 0 of none", UNKNOWN, () -> x.picture(0, 0, 0));
            x.print(3);
            for (int print : Edges.around(1)) {
                EDGES.refused(x, "print " + print, UNKNOWN, () -> x.picture(print, 0, 0));
            }
        });
        EDGES.test(14, "UNKNOWN: picture", x -> {
            x.print(3);
            x.print(48);
            for (int picture : Edges.around(3)) {
                EDGES.refused(x, "picture " + picture, UNKNOWN, () -> x.picture(0, picture, 0));
            }
            EDGES.refused(x, "picture 48", UNKNOWN, () -> x.picture(1, 48, 0));
            x.mend(0, 0, 1);
            EDGES.refused(x, "picture 1, taken out", UNKNOWN, () -> x.picture(0, 1, 0));
            due("picture 0", x.picture(0, 0, 0), 2);
        });
        EDGES.test(14, "OUTSIDE: what is 0 to 2", x -> {
            x.print(3);
            for (int what : Edges.around(3)) {
                EDGES.refused(x, "what " + what, OUTSIDE, () -> x.picture(0, 0, what));
            }
        });
        EDGES.test(14, "UNKNOWN ahead of OUTSIDE", x -> {
            x.print(3);
            EDGES.refused(x, "print and what", UNKNOWN, () -> x.picture(1, 0, 3));
            EDGES.refused(x, "picture and what", UNKNOWN, () -> x.picture(0, 3, -1));
        });
    }
}
