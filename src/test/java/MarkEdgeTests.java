import java.util.function.IntUnaryOperator;

/** The boundaries that promises 15 to 23 name: what the marks tell. */
public final class MarkEdgeTests {
    private static final int NONE = Edges.NONE, UNKNOWN = Edges.UNKNOWN, OUTSIDE = Edges.OUTSIDE, FULL = Edges.FULL;
    private static final Edges EDGES = new Edges("MarkEdgeTests", 15, 23);

    public static void main(String[] args) {
        letsTwoAtLeast();
        letsEach();
        letsRefused();
        roundsTold();
        roundsRefused();
        chanceNone();
        chanceTold();
        chanceRefused();
        whoseTold();
        whoseNot();
        woundThreeAtLeast();
        woundPairs();
        woundBack();
        woundRefused();
        traceLet();
        traceRefused();
        clear();
        goneLeast();
        goneNothing();
        gonePlaces();
        earlierTold();
        earlierRefused();
        EDGES.close();
    }

    private static void due(String what, long got, long want) {
        EDGES.due(what, got, want);
    }

    /** A print of n with a black mark on side 0 of each picture. */
    private static LinesDownFilm allOf(int n) {
        LinesDownFilm x = new LinesDownFilm();
        Typing.machine(x, "g0");
        x.print(n);
        x.run(0, 0, false);
        return x;
    }

    private static LinesDownFilm marked(int n, int... pictures) {
        LinesDownFilm x = new LinesDownFilm();
        x.print(n);
        Edges.paint(x, 0, 0, 0, pictures);
        return x;
    }

    /** The call takes a print's number: UNKNOWN where there is none such. */
    private static void unknownPrints(LinesDownFilm x, int prints, String call, IntUnaryOperator answer) {
        for (int print : Edges.around(prints)) {
            EDGES.refused(x, call + " of print " + print, UNKNOWN, () -> answer.applyAsInt(print));
        }
    }

    private static void outside(LinesDownFilm x, int[] numbers, String what, IntUnaryOperator answer) {
        for (int number : numbers) {
            EDGES.refused(x, what + " " + number, OUTSIDE, () -> answer.applyAsInt(number));
        }
    }

    private static void letsTwoAtLeast() {
        EDGES.test(15, "there are two such PICTURES at least: the least ROUND", x -> {
            due("one of one", allOf(1).lets(0, 0, 0, 2, 0), 0);
            due("one of two", allOf(2).lets(0, 0, 0, 2, 0), 0);
            due("two of three", allOf(3).lets(0, 0, 0, 2, 0), 1);
            due("one of three, PHASE 1", allOf(3).lets(0, 0, 0, 2, 1), 0);
            due("two of four, PHASE 1", allOf(4).lets(0, 0, 0, 2, 1), 1);
        });
        EDGES.test(15, "there are two such PICTURES at least: the greatest ROUND", x -> {
            due("one of 19", allOf(19).lets(0, 0, 0, 19, 0), 0);
            due("two of 20", allOf(20).lets(0, 0, 0, 19, 0), 1);
            due("one of 37, PHASE 18", allOf(37).lets(0, 0, 0, 19, 18), 0);
            due("two of 38, PHASE 18", allOf(38).lets(0, 0, 0, 19, 18), 1);
        });
        EDGES.test(15, "there are two such PICTURES at least: there is none", x ->
            due("none of 18", allOf(18).lets(0, 0, 0, 19, 18), 0));
    }

    private static void letsEach() {
        EDGES.test(15, "each PICTURE whose rest by r is p has one: the first or the last lacks it", x -> {
            due("all three", marked(12, 1, 6, 11).lets(0, 0, 0, 5, 1), 1);
            due("not the first", marked(12, 6, 11).lets(0, 0, 0, 5, 1), 0);
            due("not the second", marked(12, 1, 11).lets(0, 0, 0, 5, 1), 0);
            due("not the last", marked(12, 1, 6).lets(0, 0, 0, 5, 1), 0);
            due("none", marked(12).lets(0, 0, 0, 5, 1), 0);
        });
        EDGES.test(15, "each PICTURE whose rest by r is p: the last one of 48", x -> {
            due("47 has none", marked(48, 9, 28).lets(0, 0, 0, 19, 9), 0);
            due("47 has one", marked(48, 9, 28, 47).lets(0, 0, 0, 19, 9), 1);
        });
        EDGES.test(15, "other PICTURES may have one, too", x ->
            due("all", allOf(12).lets(0, 0, 0, 5, 1), 1));
        EDGES.test(15, "the rest of the PICTURE's number, not of its FRAME", x -> {
            x.print(8);
            x.mend(0, 0, 0);
            Edges.paint(x, 0, 0, 0, 1, 4);
            due("by the number", x.lets(0, 0, 0, 3, 1), 1);
            due("by the frame", x.lets(0, 0, 0, 3, 2), 0);
        });
        EDGES.test(15, "sort 0 BLACK, 1 WHITE, 2 either", x -> {
            x.print(4);
            Edges.paint(x, 0, 0, 0, 0, 2);
            Edges.paint(x, 0, 1, 1, 0, 2);
            Edges.paint(x, 0, 2, 0, 0);
            Edges.paint(x, 0, 2, 1, 2);
            Edges.paint(x, 0, 3, 0, 0, 2);
            Edges.paint(x, 0, 3, 1, 0, 2);
            int[][] told = {{1, 0, 1}, {0, 1, 1}, {0, 0, 1}, {1, 1, 1}, {0, 0, 0}};
            for (int side = 0; side < 5; side++) {
                for (int sort = 0; sort <= 2; sort++) {
                    due("side " + side + ", sort " + sort, x.lets(0, side, sort, 2, 0), told[side][sort]);
                }
            }
        });
        EDGES.test(15, "one SIDE: 0 to 7", x -> {
            x.print(3);
            for (int side = 0; side <= 7; side++) {
                due("before side " + side, x.lets(0, side, 0, 2, 0), 0);
                Edges.paint(x, 0, side, 0, 0, 2);
                due("side " + side, x.lets(0, side, 0, 2, 0), 1);
            }
        });
    }

    private static void letsRefused() {
        EDGES.test(15, "UNKNOWN: print", x -> {
            EDGES.refused(x, "print 0 of none", UNKNOWN, () -> x.lets(0, 0, 0, 2, 0));
            x.print(3);
            unknownPrints(x, 1, "lets", print -> x.lets(print, 0, 0, 2, 0));
        });
        EDGES.test(15, "OUTSIDE: side is 0 to 7", x -> {
            x.print(3);
            outside(x, Edges.around(8), "side", side -> x.lets(0, side, 0, 2, 0));
        });
        EDGES.test(15, "OUTSIDE: sort is 0 to 2", x -> {
            x.print(3);
            outside(x, Edges.around(3), "sort", sort -> x.lets(0, 0, sort, 2, 0));
        });
        EDGES.test(15, "OUTSIDE: round is 2 to 19", x -> {
            x.print(3);
            outside(x, new int[] {0, 1}, "round", round -> x.lets(0, 0, 0, round, 0));
            outside(x, Edges.around(20), "round", round -> x.lets(0, 0, 0, round, 0));
            due("round 2", x.lets(0, 0, 0, 2, 0), 0);
            due("round 19", x.lets(0, 0, 0, 19, 0), 0);
        });
        for (int r = 2; r <= 19; r++) {
            int round = r;
            EDGES.test(15, "OUTSIDE: phase is 0 to ROUND less 1: of " + round, x -> {
                x.print(3);
                due("phase 0", x.lets(0, 0, 0, round, 0), 0);
                due("phase " + (round - 1), x.lets(0, 0, 0, round, round - 1), 0);
                outside(x, Edges.around(round), "phase", phase -> x.lets(0, 0, 0, round, phase));
            });
        }
        EDGES.test(15, "UNKNOWN ahead of OUTSIDE", x -> {
            x.print(3);
            EDGES.refused(x, "print and side", UNKNOWN, () -> x.lets(1, 8, 0, 2, 0));
            EDGES.refused(x, "print and sort", UNKNOWN, () -> x.lets(1, 0, 3, 2, 0));
            EDGES.refused(x, "print and round", UNKNOWN, () -> x.lets(-1, 0, 0, 1, 0));
            EDGES.refused(x, "print and phase", UNKNOWN, () -> x.lets(-1, 0, 0, 2, 2));
        });
    }

    private static void roundsTold() {
        EDGES.test(16, "no MARKS: none", x -> {
            x.print(48);
            due("rounds", x.rounds(0, 0, 2), 0);
        });
        EDGES.test(16, "two PICTURES at least: the shortest PRINTS", x -> {
            due("one", allOf(1).rounds(0, 0, 0), 0);
            due("two", allOf(2).rounds(0, 0, 0), 0);
            due("three", allOf(3).rounds(0, 0, 0), 1 << 2);
            due("four", allOf(4).rounds(0, 0, 0), 1 << 2 | 1 << 3);
        });
        EDGES.test(16, "all r from 2 to 19: the last", x -> {
            due("18", allOf(18).rounds(0, 0, 0), (1 << 18) - 4);
            due("19", allOf(19).rounds(0, 0, 0), (1 << 19) - 4);
            due("20", allOf(20).rounds(0, 0, 0), (1 << 20) - 4);
            due("21", allOf(21).rounds(0, 0, 0), (1 << 20) - 4);
            due("48", allOf(48).rounds(0, 0, 0), (1 << 20) - 4);
        });
        EDGES.test(16, "that some p lets: the greatest p alone", x -> {
            due("round 2", marked(4, 1, 3).rounds(0, 0, 0), 1 << 2);
            due("round 19", marked(38, 18, 37).rounds(0, 0, 0), 1 << 19);
            due("round 19, not all", marked(38, 18, 36).rounds(0, 0, 0), 0);
        });
        EDGES.test(16, "that some p lets: p of 0 alone", x ->
            due("round 19", marked(20, 0, 19).rounds(0, 0, 0), 1 << 19));
        EDGES.test(16, "bit r for r: none of 0 and 1", x ->
            due("bits 0 and 1", allOf(48).rounds(0, 0, 0) & 3, 0));
        EDGES.test(16, "sort 0 BLACK, 1 WHITE, 2 either", x -> {
            x.print(3);
            Edges.paint(x, 0, 0, 0, 0);
            Edges.paint(x, 0, 0, 1, 2);
            due("black", x.rounds(0, 0, 0), 0);
            due("white", x.rounds(0, 0, 1), 0);
            due("either", x.rounds(0, 0, 2), 4);
            Edges.paint(x, 0, 7, 1, 0, 2);
            due("black of side 7", x.rounds(0, 7, 0), 0);
            due("white of side 7", x.rounds(0, 7, 1), 4);
        });
    }

    private static void roundsRefused() {
        EDGES.test(16, "UNKNOWN: print", x -> {
            EDGES.refused(x, "print 0 of none", UNKNOWN, () -> x.rounds(0, 0, 0));
            x.print(3);
            unknownPrints(x, 1, "rounds", print -> x.rounds(print, 0, 0));
        });
        EDGES.test(16, "OUTSIDE: side is 0 to 7", x -> {
            x.print(3);
            due("side 0", x.rounds(0, 0, 0), 0);
            due("side 7", x.rounds(0, 7, 0), 0);
            outside(x, Edges.around(8), "side", side -> x.rounds(0, side, 0));
        });
        EDGES.test(16, "OUTSIDE: sort is 0 to 2", x -> {
            x.print(3);
            due("sort 2", x.rounds(0, 0, 2), 0);
            outside(x, Edges.around(3), "sort", sort -> x.rounds(0, 0, sort));
        });
        EDGES.test(16, "UNKNOWN ahead of OUTSIDE", x -> {
            x.print(3);
            EDGES.refused(x, "print and side", UNKNOWN, () -> x.rounds(1, 8, 0));
            EDGES.refused(x, "print and sort", UNKNOWN, () -> x.rounds(-1, 0, 3));
        });
    }

    private static void isChance(LinesDownFilm x, int sort, int round, int phase, long above, long below) {
        String call = "sort " + sort + ", round " + round + ", phase " + phase;
        due(call + ": above", x.chance(0, 0, sort, round, phase, 0), above);
        due(call + ": below", x.chance(0, 0, sort, round, phase, 1), below);
    }

    private static void chanceNone() {
        EDGES.test(17, "all these PICTURES: there is none", x -> {
            isChance(allOf(18), 0, 19, 18, 1, 1);
            isChance(marked(18), 0, 19, 18, 1, 1);
            isChance(marked(1), 0, 2, 1, 1, 1);
        });
        EDGES.test(17, "no MARKS are dealt, and there is such a PICTURE", x -> {
            isChance(marked(19), 0, 19, 18, 0, 1);
            isChance(marked(1), 0, 2, 0, 0, 1);
        });
        EDGES.test(17, "as many as all PICTURES are dealt", x -> {
            isChance(allOf(48), 0, 2, 0, 1, 1);
            isChance(allOf(1), 0, 2, 0, 1, 1);
        });
        EDGES.test(17, "one less than these PICTURES, just as many, one more", x -> {
            isChance(marked(10, 0, 1, 2, 3), 0, 2, 0, 0, 1);
            isChance(marked(10, 0, 1, 2, 3, 4), 0, 2, 0, 1, 252);
            isChance(marked(10, 0, 1, 2, 3, 4, 5), 0, 2, 0, 1, 42);
            isChance(marked(10, 0, 1, 2, 3, 4, 5, 6, 7, 8), 0, 2, 0, 1, 2);
        });
    }

    private static void chanceTold() {
        EDGES.test(17, "by how many there are, not where they are", x -> {
            isChance(marked(10, 1, 3, 5), 0, 5, 0, 1, 15);
            isChance(marked(10, 0, 5, 9), 0, 5, 0, 1, 15);
        });
        EDGES.test(17, "by MARKS of its SIDE: the greatest, of the last PRINT", x -> {
            for (int i = 0; i < 6; i++) {
                x.print(4 + i);
            }
            Edges.paint(x, 5, 7, 1, 0, 1, 2);
            Edges.paint(x, 5, 5, 1, 0);
            Edges.paint(x, 0, 7, 1, 0);
            due("side 7: below", x.chance(5, 7, 1, 3, 0, 1), 84);
            due("side 7: above", x.chance(5, 7, 1, 8, 7, 0), 1);
            due("side 7: below, one PICTURE", x.chance(5, 7, 1, 8, 7, 1), 3);
            due("side 5: below, one PICTURE", x.chance(5, 5, 1, 8, 7, 1), 9);
        });
        EDGES.test(17, "one such PICTURE is enough for a chance", x ->
            isChance(marked(10, 1, 2, 3, 4), 0, 10, 9, 2, 5));
        EDGES.test(17, "in lowest terms: the greatest numbers", x -> {
            LinesDownFilm y = marked(48);
            for (int i = 0; i < 24; i++) {
                y.mark(0, i, 0, 0, true);
            }
            isChance(y, 0, 2, 1, 1, 32247603683100L);
            y.mark(0, 24, 0, 0, true);
            isChance(y, 0, 2, 1, 1, 1289904147324L);
        });
        EDGES.test(17, "in lowest terms: above is not 1", x -> {
            // 20 * 19 * 18 * 17 of 48 * 47 * 46 * 45, both by 360
            LinesDownFilm y = marked(48);
            for (int i = 0; i < 20; i++) {
                y.mark(0, i, 0, 0, true);
            }
            isChance(y, 0, 12, 5, 323, 12972);
        });
        EDGES.test(17, "sort 2: a PICTURE with a BLACK and a WHITE one has one", x -> {
            LinesDownFilm y = marked(6, 0, 1);
            Edges.paint(y, 0, 0, 1, 1, 2);
            isChance(y, 0, 3, 0, 1, 15);
            isChance(y, 1, 3, 0, 1, 15);
            isChance(y, 2, 3, 0, 1, 5);
        });
    }

    private static void chanceRefused() {
        EDGES.test(17, "UNKNOWN: print", x -> {
            EDGES.refused(x, "print 0 of none", UNKNOWN, () -> x.chance(0, 0, 0, 2, 0, 0));
            x.print(3);
            unknownPrints(x, 1, "chance", print -> (int) x.chance(print, 0, 0, 2, 0, 0));
        });
        EDGES.test(17, "OUTSIDE: side is 0 to 7", x -> {
            x.print(3);
            due("side 7", x.chance(0, 7, 0, 2, 0, 1), 1);
            outside(x, Edges.around(8), "side", side -> (int) x.chance(0, side, 0, 2, 0, 0));
        });
        EDGES.test(17, "OUTSIDE: sort is 0 to 2", x -> {
            x.print(3);
            due("sort 2", x.chance(0, 0, 2, 2, 0, 1), 1);
            outside(x, Edges.around(3), "sort", sort -> (int) x.chance(0, 0, sort, 2, 0, 0));
        });
        EDGES.test(17, "OUTSIDE: round is 2 to 19", x -> {
            x.print(3);
            due("round 2", x.chance(0, 0, 0, 2, 0, 1), 1);
            due("round 19", x.chance(0, 0, 0, 19, 0, 1), 1);
            outside(x, new int[] {0, 1}, "round", round -> (int) x.chance(0, 0, 0, round, 0, 0));
            outside(x, Edges.around(20), "round", round -> (int) x.chance(0, 0, 0, round, 0, 0));
        });
        for (int r = 2; r <= 19; r++) {
            int round = r;
            EDGES.test(17, "OUTSIDE: phase is 0 to ROUND less 1: of " + round, x -> {
                x.print(3);
                due("phase 0", x.chance(0, 0, 0, round, 0, 1), 1);
                due("phase " + (round - 1), x.chance(0, 0, 0, round, round - 1, 1), 1);
                outside(x, Edges.around(round), "phase", phase -> (int) x.chance(0, 0, 0, round, phase, 0));
            });
        }
        EDGES.test(17, "OUTSIDE: part is 0 or 1", x -> {
            x.print(3);
            outside(x, Edges.around(2), "part", part -> (int) x.chance(0, 0, 0, 2, 0, part));
        });
        EDGES.test(17, "UNKNOWN ahead of OUTSIDE", x -> {
            x.print(3);
            EDGES.refused(x, "print and side", UNKNOWN, () -> x.chance(1, 8, 0, 2, 0, 0));
            EDGES.refused(x, "print and sort", UNKNOWN, () -> x.chance(1, 0, 3, 2, 0, 0));
            EDGES.refused(x, "print and round", UNKNOWN, () -> x.chance(-1, 0, 0, 20, 0, 0));
            EDGES.refused(x, "print and phase", UNKNOWN, () -> x.chance(-1, 0, 0, 2, 2, 0));
            EDGES.refused(x, "print and part", UNKNOWN, () -> x.chance(-1, 0, 0, 2, 0, 2));
        });
    }

    private static void whoseTold() {
        EDGES.test(18, "no MACHINES: none", x -> {
            x.print(1);
            due("whose", x.whose(0), 0);
        });
        EDGES.test(18, "bits of MACHINES: each of six", x -> {
            x.print(5);
            for (int i = 0; i < 6; i++) {
                Typing.machine(x, "g" + i);
            }
            due("none", x.whose(0), 0);
            for (int i = 0; i < 6; i++) {
                x.run(0, i, false);
                due("up to " + i, x.whose(0), (2 << i) - 1);
            }
        });
        EDGES.test(18, "each PART's MARKS are all there: a PART that leaves none", x -> {
            x.print(19);
            Typing.machine(x, "r0o19p18");
            Typing.machine(x, "w0o19p9");
            due("one mark, and none", x.whose(0), 2);
            x.mend(0, 18, 18);
            due("none, and none", x.whose(0), 3);
        });
        EDGES.test(18, "each PART's MARKS are all there: the first PART or the last lacks one", x -> {
            x.print(4);
            Typing.machine(x, "g0,g1,g2,g3");
            x.run(0, 0, false);
            due("all", x.whose(0), 1);
            for (int side = 0; side < 4; side++) {
                x.mark(0, 3, side, 0, false);
                due("one less on side " + side, x.whose(0), 0);
                x.mark(0, 3, side, 0, true);
            }
            due("all again", x.whose(0), 1);
        });
        EDGES.test(18, "all there: the first MARK or the last is lacking", x -> {
            x.print(48);
            Typing.machine(x, "r0o19p9");
            Edges.paint(x, 0, 0, 0, 9, 28);
            due("not 47", x.whose(0), 0);
            Edges.paint(x, 0, 0, 0, 47);
            due("all", x.whose(0), 1);
            x.mark(0, 9, 0, 0, false);
            due("not 9", x.whose(0), 0);
        });
        EDGES.test(18, "more MARKS than its own do no harm", x -> {
            x.print(9);
            Typing.machine(x, "t0o2p0");
            Typing.machine(x, "g0");
            x.run(0, 1, false);
            due("whose", x.whose(0), 3);
        });
    }

    private static void whoseNot() {
        EDGES.test(18, "forward: not those of a RUN back", x -> {
            x.print(4);
            Typing.machine(x, "r0o2p0");
            x.run(0, 0, true);
            due("back", x.whose(0), 0);
            x.run(0, 0, false);
            due("forward", x.whose(0), 1);
        });
        EDGES.test(18, "BLACK: not WHITE ones", x -> {
            x.print(4);
            Typing.machine(x, "r0o2p0");
            Edges.paint(x, 0, 0, 1, 0, 1, 2, 3);
            due("white", x.whose(0), 0);
            Edges.paint(x, 0, 0, 0, 0, 2);
            due("black", x.whose(0), 1);
        });
        EDGES.test(18, "on its SIDE: not those of another", x -> {
            x.print(4);
            Typing.machine(x, "g7");
            Edges.paint(x, 0, 6, 0, 0, 1, 2, 3);
            due("on side 6", x.whose(0), 0);
        });
        EDGES.test(18, "of its PRINT: not those of another", x -> {
            x.print(4);
            x.print(4);
            Typing.machine(x, "g7");
            x.run(1, 0, false);
            due("print 0", x.whose(0), 0);
            due("print 1", x.whose(1), 1);
        });
        EDGES.test(18, "UNKNOWN: print", x -> {
            EDGES.refused(x, "print 0 of none", UNKNOWN, () -> x.whose(0));
            x.print(3);
            Typing.machine(x, "g0");
            unknownPrints(x, 1, "whose", x::whose);
        });
    }

    private static void isWound(LinesDownFilm x, boolean back, int pairs, int first, int thick) {
        due("pairs", x.wound(0, 0, 0, back, 0), pairs);
        due("FIRST", x.wound(0, 0, 0, back, 1), first);
        due("THICK", x.wound(0, 0, 0, back, 2), thick);
    }

    private static void woundThreeAtLeast() {
        EDGES.test(19, "NONE, where there are no pairs", x -> isWound(marked(48), false, 0, NONE, NONE));
        EDGES.test(19, "there are three at least: the least PRINTS", x -> {
            isWound(allOf(1), false, 0, NONE, NONE);
            isWound(allOf(3), false, 0, NONE, NONE);
            isWound(allOf(4), false, 1, 1, 0);
        });
        EDGES.test(19, "there are three at least: the third is the last PICTURE, or just behind it", x -> {
            isWound(marked(9, 2, 5), false, 0, NONE, NONE);
            isWound(marked(10, 2, 5, 9), false, 1, 2, 1);
            isWound(marked(30, 1, 11), false, 0, NONE, NONE);
            isWound(marked(31, 1, 11, 30), false, 1, 1, 9);
        });
        EDGES.test(19, "each PICTURE that they tell has one: the first or the last lacks it", x -> {
            isWound(marked(15, 2, 5, 9, 14), false, 1, 2, 1);
            isWound(marked(15, 5, 9, 14), false, 0, NONE, NONE);
            isWound(marked(15, 2, 5, 9), false, 0, NONE, NONE);
        });
    }

    private static void woundPairs() {
        EDGES.test(19, "FIRST 1 to 19, THICK 0 to 9: all of 48 PICTURES", x -> {
            // three of 48: thrice FIRST and thrice THICK is 47 at most, so FIRST and THICK 15 at most
            int pairs = 0;
            for (int first = 1; first <= 15; first++) {
                pairs += Math.min(9, 15 - first) + 1;
            }
            isWound(allOf(48), false, pairs, 1, 0);
        });
        EDGES.test(19, "FIRST is 1 at least", x ->
            // 0, 1 and 3 would be the ways of a FIRST of 0
            isWound(marked(5, 0, 1, 3), false, 0, NONE, NONE));
        EDGES.test(19, "the greatest FIRST that can be", x -> isWound(marked(48, 15, 30, 45), false, 1, 15, 0));
        EDGES.test(19, "THICK is 9 at most", x -> {
            isWound(marked(48, 1, 11, 30), false, 1, 1, 9);
            // ways of 1, 11, 21
            isWound(marked(48, 1, 12, 33), false, 0, NONE, NONE);
            isWound(marked(48, 6, 21, 45), false, 1, 6, 9);
        });
        EDGES.test(19, "of the first one: by FIRST, then THICK", x -> {
            LinesDownFilm both = marked(10, 1, 4, 8, 2, 5, 9);
            isWound(both, false, 2, 1, 2);
            // 2, 4, 6, 8 and 2, 5, 9
            isWound(marked(10, 2, 4, 6, 8, 5, 9), false, 2, 2, 0);
            // 1, 5, 12 and 3, 6, 9, 12
            isWound(marked(13, 1, 5, 12, 3, 6, 9), false, 2, 1, 3);
        });
        EDGES.test(19, "sort 0 BLACK, 1 WHITE, 2 either", x -> {
            x.print(10);
            Edges.paint(x, 0, 7, 0, 2, 9);
            Edges.paint(x, 0, 7, 1, 5);
            due("black", x.wound(0, 7, 0, false, 0), 0);
            due("white", x.wound(0, 7, 1, false, 0), 0);
            due("either", x.wound(0, 7, 2, false, 0), 1);
            Edges.paint(x, 0, 7, 1, 2, 9);
            due("white now", x.wound(0, 7, 1, false, 0), 1);
            due("another side", x.wound(0, 6, 2, false, 0), 0);
        });
    }

    private static void woundBack() {
        EDGES.test(19, "back: PICTURE n less 1 less i in place of i", x -> {
            isWound(marked(10, 7, 4, 0), true, 1, 2, 1);
            isWound(marked(10, 7, 4, 0), false, 0, NONE, NONE);
            isWound(marked(11, 8, 5, 1), true, 1, 2, 1);
            isWound(marked(48, 46, 36, 17), true, 1, 1, 9);
        });
        EDGES.test(19, "back: there are three at least", x -> {
            isWound(marked(9, 6, 3), true, 0, NONE, NONE);
            isWound(allOf(3), true, 0, NONE, NONE);
            isWound(allOf(4), true, 1, 1, 0);
        });
        EDGES.test(19, "back: what a RUN back leaves", x -> {
            Typing.machine(x, "w0o3p2");
            x.print(48);
            x.run(0, 0, true);
            isWound(x, true, 1, 3, 2);
            isWound(x, false, 0, NONE, NONE);
        });
    }

    private static void woundRefused() {
        EDGES.test(19, "UNKNOWN: print", x -> {
            EDGES.refused(x, "print 0 of none", UNKNOWN, () -> x.wound(0, 0, 0, false, 0));
            x.print(3);
            unknownPrints(x, 1, "wound", print -> x.wound(print, 0, 0, true, 0));
        });
        EDGES.test(19, "OUTSIDE: side is 0 to 7", x -> {
            x.print(3);
            due("side 7", x.wound(0, 7, 0, false, 0), 0);
            outside(x, Edges.around(8), "side", side -> x.wound(0, side, 0, false, 0));
        });
        EDGES.test(19, "OUTSIDE: sort is 0 to 2", x -> {
            x.print(3);
            due("sort 2", x.wound(0, 0, 2, false, 0), 0);
            outside(x, Edges.around(3), "sort", sort -> x.wound(0, 0, sort, true, 0));
        });
        EDGES.test(19, "OUTSIDE: what is 0 to 2", x -> {
            x.print(3);
            due("what 2", x.wound(0, 0, 0, false, 2), NONE);
            outside(x, Edges.around(3), "what", what -> x.wound(0, 0, 0, true, what));
        });
        EDGES.test(19, "UNKNOWN ahead of OUTSIDE", x -> {
            x.print(3);
            EDGES.refused(x, "print and side", UNKNOWN, () -> x.wound(1, 8, 0, true, 0));
            EDGES.refused(x, "print and sort", UNKNOWN, () -> x.wound(-1, 0, 3, true, 0));
            EDGES.refused(x, "print and what", UNKNOWN, () -> x.wound(-1, 0, 0, true, 3));
        });
    }

    private static void traceLet() {
        EDGES.test(20, "how many: 1 to 4", x -> {
            for (int i = 1; i <= 4; i++) {
                due("trace " + i, x.trace(i, 5), i);
                due("traces", x.count(4), i);
            }
        });
        EDGES.test(20, "SIDES and ROUNDS: the least and the greatest", x -> {
            due("side 0, round 2", x.trace(0, 2), 1);
            due("side 7, round 19", x.trace(7, 19), 2);
            due("side 0, round 19", x.trace(0, 19), 3);
            due("side 7, round 2", x.trace(7, 2), 4);
        });
        EDGES.test(20, "one that is there already counts again", x -> {
            x.trace(3, 4);
            due("again", x.trace(3, 4), 2);
        });
        EDGES.test(20, "no PRINT is needed", x -> due("trace", x.trace(0, 2), 1));
    }

    private static void traceRefused() {
        EDGES.test(20, "OUTSIDE: side is 0 to 7", x ->
            outside(x, Edges.around(8), "side", side -> x.trace(side, 2)));
        EDGES.test(20, "OUTSIDE: round is 2 to 19", x -> {
            outside(x, new int[] {0, 1}, "round", round -> x.trace(0, round));
            outside(x, Edges.around(20), "round", round -> x.trace(0, round));
            due("traces", x.count(4), 0);
        });
        EDGES.test(20, "FULL: a fifth", x -> {
            for (int i = 0; i < 4; i++) {
                x.trace(i, 2 + i);
            }
            EDGES.refused(x, "the fifth", FULL, () -> x.trace(7, 19));
            EDGES.refused(x, "one that is there already", FULL, () -> x.trace(0, 2));
            due("traces", x.count(4), 4);
        });
        EDGES.test(20, "OUTSIDE ahead of FULL", x -> {
            for (int i = 0; i < 4; i++) {
                x.trace(i, 2);
            }
            EDGES.refused(x, "side 8", OUTSIDE, () -> x.trace(8, 2));
            EDGES.refused(x, "round 1", OUTSIDE, () -> x.trace(0, 1));
            EDGES.refused(x, "round 20", OUTSIDE, () -> x.trace(0, 20));
        });
    }

    private static void clear() {
        EDGES.test(21, "how many there were: none", x -> {
            due("clear", x.clear(), 0);
            due("clear again", x.clear(), 0);
        });
        EDGES.test(21, "how many there were: 1 to 4", x -> {
            for (int traces = 1; traces <= 4; traces++) {
                for (int i = 0; i < traces; i++) {
                    x.trace(0, 2);
                }
                due("clear of " + traces, x.clear(), traces);
                due("traces", x.count(4), 0);
            }
        });
        EDGES.test(21, "all TRACES are gone: four may come again", x -> {
            for (int i = 0; i < 4; i++) {
                x.trace(0, 2);
            }
            x.clear();
            for (int i = 1; i <= 4; i++) {
                due("trace", x.trace(1, 3), i);
            }
        });
        EDGES.test(21, "all TRACES are gone: they tell nothing more", x -> {
            x.print(4);
            Edges.paint(x, 0, 0, 0, 1, 2);
            x.trace(0, 2);
            due("with it", x.gone(0, 2), 1);
            x.clear();
            due("without it", x.gone(0, 2), 0);
        });
        EDGES.test(21, "the PRINTS stay", x -> {
            x.print(4);
            x.mark(0, 0, 0, 0, true);
            long before = x.digest();
            x.trace(0, 2);
            x.clear();
            due("digest", x.digest(), before);
        });
    }

    private static void goneLeast() {
        EDGES.test(22, "the least g: 0", x -> {
            LinesDownFilm y = marked(9, 2, 6);
            y.trace(0, 4);
            due("4 between", y.gone(0, 4), 0);
            y.trace(0, 2);
            due("by two TRACES", y.gone(0, 4), 0);
        });
        EDGES.test(22, "the least g: of one TRACE it is ROUND less 1 at most", x -> {
            for (int round = 2; round <= 19; round++) {
                LinesDownFilm y = marked(30, 10, 11);
                y.trace(0, round);
                due("round " + round, y.gone(0, 11), round - 1);
            }
        });
        EDGES.test(22, "0 to 99: 99 is let", x -> {
            x.print(30);
            Edges.paint(x, 0, 0, 0, 17, 18);
            Edges.paint(x, 0, 1, 0, 7, 18);
            x.trace(0, 10);
            x.trace(1, 11);
            due("9 by 10, 0 by 11", x.gone(0, 18), 99);
        });
        EDGES.test(22, "0 to 99: 98 is let", x -> {
            x.print(30);
            Edges.paint(x, 0, 0, 0, 16, 18);
            Edges.paint(x, 0, 1, 0, 17, 18);
            x.trace(0, 10);
            x.trace(1, 11);
            // 8 by 10 and 10 by 11
            due("98", x.gone(0, 18), 98);
        });
        EDGES.test(22, "NONE: by none of 0 to 99: 100 is not let", x -> {
            x.print(30);
            Edges.paint(x, 0, 0, 0, 8, 18);
            Edges.paint(x, 0, 1, 0, 8, 18);
            x.trace(0, 10);
            x.trace(1, 11);
            // 0 by 10 and 1 by 11
            due("100", x.gone(0, 18), NONE);
        });
        EDGES.test(22, "NONE: by none of 0 to 99: two TRACES that can't be together", x -> {
            x.print(8);
            Edges.paint(x, 0, 0, 0, 3, 4);
            Edges.paint(x, 0, 1, 0, 2, 4);
            x.trace(0, 4);
            x.trace(1, 6);
            due("odd and even", x.gone(0, 4), NONE);
        });
        EDGES.test(22, "for each TRACE: the first and the fourth", x -> {
            x.print(8);
            Edges.paint(x, 0, 0, 0, 3, 4);
            Edges.paint(x, 0, 7, 0, 2, 4);
            x.trace(0, 3);
            due("the first alone", x.gone(0, 4), 2);
            x.trace(1, 2);
            x.trace(2, 2);
            x.trace(7, 5);
            due("2 by 3, 3 by 5", x.gone(0, 4), 8);
        });
        EDGES.test(22, "each TRACE's own SIDE, the greatest one, too", x -> {
            x.print(8);
            Edges.paint(x, 0, 6, 0, 3, 4);
            x.trace(7, 5);
            due("side 7 has none", x.gone(0, 4), 0);
            Edges.paint(x, 0, 7, 0, 2, 5);
            due("side 7", x.gone(0, 4), 2);
        });
        EDGES.test(22, "the PICTURE's number, not its FRAME", x -> {
            x.print(12);
            Edges.paint(x, 0, 0, 0, 3, 8);
            x.trace(0, 5);
            due("unmended", x.gone(0, 6), 0);
            x.mend(0, 5, 6);
            due("two are gone", x.gone(0, 5), 2);
        });
    }

    private static void goneNothing() {
        EDGES.test(22, "no TRACES: 0", x -> due("gone", marked(4, 1, 2).gone(0, 2), 0));
        EDGES.test(22, "TRACES without a MARK on one of both sides tell nothing", x -> {
            LinesDownFilm ahead = marked(6, 1);
            ahead.trace(0, 5);
            due("none behind", ahead.gone(0, 3), 0);
            LinesDownFilm behind = marked(6, 4);
            behind.trace(0, 5);
            due("none ahead", behind.gone(0, 3), 0);
            LinesDownFilm none = marked(6);
            none.trace(0, 5);
            due("none at all", none.gone(0, 3), 0);
        });
        EDGES.test(22, "TRACES that tell nothing leave it to the others", x -> {
            x.print(6);
            Edges.paint(x, 0, 0, 0, 2, 3);
            Edges.paint(x, 0, 1, 0, 2);
            Edges.paint(x, 0, 2, 0, 3);
            x.trace(1, 7);
            x.trace(0, 7);
            x.trace(2, 7);
            due("gone", x.gone(0, 3), 6);
        });
        EDGES.test(22, "the last MARK ahead of c, the first one from c on", x -> {
            LinesDownFilm y = marked(12, 0, 3, 5, 6, 9, 11);
            y.trace(0, 19);
            due("c is 6: 5 and 6", y.gone(0, 6), 18);
            due("c is 5: 3 and 5", y.gone(0, 5), 17);
            due("c is 4: 3 and 5", y.gone(0, 4), 17);
            due("c is 1: 0 and 3", y.gone(0, 1), 16);
            due("c is 9: 6 and 9", y.gone(0, 9), 16);
            due("c is 11: 9 and 11", y.gone(0, 11), 17);
        });
        EDGES.test(22, "BLACK: WHITE ones tell nothing", x -> {
            x.print(6);
            Edges.paint(x, 0, 0, 1, 2, 3);
            x.trace(0, 7);
            due("white", x.gone(0, 3), 0);
            Edges.paint(x, 0, 0, 0, 1, 5);
            due("black", x.gone(0, 3), 3);
        });
    }

    private static void gonePlaces() {
        EDGES.test(22, "place is 1 at least and how many PICTURES there are, less 1, at most", x -> {
            LinesDownFilm y = allOf(48);
            y.trace(0, 9);
            due("place 1", y.gone(0, 1), 8);
            due("place 47", y.gone(0, 47), 8);
            EDGES.refused(y, "place 0", OUTSIDE, () -> y.gone(0, 0));
            outside(y, Edges.around(48), "place", place -> y.gone(0, place));
        });
        EDGES.test(22, "OUTSIDE: place, of one PICTURE and of two", x -> {
            x.print(1);
            x.print(2);
            EDGES.refused(x, "place 0 of one", OUTSIDE, () -> x.gone(0, 0));
            EDGES.refused(x, "place 1 of one", OUTSIDE, () -> x.gone(0, 1));
            EDGES.refused(x, "place 0 of two", OUTSIDE, () -> x.gone(1, 0));
            due("place 1 of two", x.gone(1, 1), 0);
            EDGES.refused(x, "place 2 of two", OUTSIDE, () -> x.gone(1, 2));
        });
        EDGES.test(22, "OUTSIDE: place, of PICTURES that there are now", x -> {
            x.print(6);
            due("place 5 of six", x.gone(0, 5), 0);
            x.mend(0, 0, 0);
            EDGES.refused(x, "place 5 of five", OUTSIDE, () -> x.gone(0, 5));
            due("place 4 of five", x.gone(0, 4), 0);
        });
        EDGES.test(22, "UNKNOWN: print", x -> {
            EDGES.refused(x, "print 0 of none", UNKNOWN, () -> x.gone(0, 1));
            x.print(4);
            unknownPrints(x, 1, "gone", print -> x.gone(print, 1));
        });
        EDGES.test(22, "UNKNOWN ahead of OUTSIDE", x -> {
            x.print(4);
            EDGES.refused(x, "print and place 0", UNKNOWN, () -> x.gone(1, 0));
            EDGES.refused(x, "print and place 4", UNKNOWN, () -> x.gone(-1, 4));
        });
    }

    private static void earlierTold() {
        EDGES.test(23, "0: the same rest by r: the least and the greatest ROUND", x -> {
            due("2 apart", marked(30, 4, 6).earlier(0, 0, 2, 5), 0);
            due("19 apart", marked(30, 4, 23).earlier(0, 0, 19, 5), 0);
            due("38 apart", marked(48, 4, 42).earlier(0, 0, 19, 5), 0);
        });
        EDGES.test(23, "1: not the same rest: one less, one more", x -> {
            due("1 apart", marked(30, 5, 6).earlier(0, 0, 2, 6), 1);
            due("3 apart", marked(30, 4, 7).earlier(0, 0, 2, 5), 1);
            due("18 apart", marked(30, 4, 22).earlier(0, 0, 19, 5), 1);
            due("20 apart", marked(30, 4, 24).earlier(0, 0, 19, 5), 1);
        });
        EDGES.test(23, "NONE: a MARK is lacking on one of both sides", x -> {
            due("none behind", marked(6, 1).earlier(0, 0, 2, 3), NONE);
            due("none ahead", marked(6, 4).earlier(0, 0, 2, 3), NONE);
            due("none at all", marked(6).earlier(0, 0, 2, 3), NONE);
        });
        EDGES.test(23, "ahead of c, and from c on: a MARK just at c is behind", x -> {
            LinesDownFilm y = marked(6, 2, 3);
            due("c is 2", y.earlier(0, 0, 2, 2), NONE);
            due("c is 3", y.earlier(0, 0, 2, 3), 1);
            due("c is 4", y.earlier(0, 0, 2, 4), NONE);
        });
        EDGES.test(23, "the last MARK ahead of c and the first one from c on", x -> {
            LinesDownFilm y = marked(12, 0, 3, 7, 11);
            due("3 and 7 by 4", y.earlier(0, 0, 4, 5), 0);
            due("3 and 7 by 3", y.earlier(0, 0, 3, 5), 1);
            due("0 and 3 by 3", y.earlier(0, 0, 3, 1), 0);
            due("7 and 11 by 4", y.earlier(0, 0, 4, 11), 0);
        });
        EDGES.test(23, "BLACK ones, on the SIDE that is asked", x -> {
            x.print(6);
            Edges.paint(x, 0, 7, 1, 2, 3);
            Edges.paint(x, 0, 6, 0, 2, 3);
            due("white", x.earlier(0, 7, 2, 3), NONE);
            Edges.paint(x, 0, 7, 0, 1, 5);
            due("black", x.earlier(0, 7, 4, 3), 0);
        });
        EDGES.test(23, "TRACES have nothing to do with it", x -> {
            LinesDownFilm y = marked(6, 2, 3);
            y.trace(0, 19);
            due("earlier", y.earlier(0, 0, 2, 3), 1);
        });
    }

    private static void earlierRefused() {
        EDGES.test(23, "UNKNOWN: print", x -> {
            EDGES.refused(x, "print 0 of none", UNKNOWN, () -> x.earlier(0, 0, 2, 1));
            x.print(4);
            unknownPrints(x, 1, "earlier", print -> x.earlier(print, 0, 2, 1));
        });
        EDGES.test(23, "OUTSIDE: side is 0 to 7", x -> {
            x.print(4);
            due("side 7", x.earlier(0, 7, 2, 1), NONE);
            outside(x, Edges.around(8), "side", side -> x.earlier(0, side, 2, 1));
        });
        EDGES.test(23, "OUTSIDE: round is 2 to 19", x -> {
            LinesDownFilm y = allOf(4);
            due("round 2", y.earlier(0, 0, 2, 1), 1);
            due("round 19", y.earlier(0, 0, 19, 1), 1);
            outside(y, new int[] {0, 1}, "round", round -> y.earlier(0, 0, round, 1));
            outside(y, Edges.around(20), "round", round -> y.earlier(0, 0, round, 1));
        });
        EDGES.test(23, "OUTSIDE: place is 1 to how many PICTURES there are, less 1", x -> {
            LinesDownFilm y = allOf(48);
            due("place 1", y.earlier(0, 0, 2, 1), 1);
            due("place 47", y.earlier(0, 0, 2, 47), 1);
            EDGES.refused(y, "place 0", OUTSIDE, () -> y.earlier(0, 0, 2, 0));
            outside(y, Edges.around(48), "place", place -> y.earlier(0, 0, 2, place));
        });
        EDGES.test(23, "OUTSIDE: place, of one PICTURE and of two", x -> {
            x.print(1);
            x.print(2);
            EDGES.refused(x, "place 0 of one", OUTSIDE, () -> x.earlier(0, 0, 2, 0));
            EDGES.refused(x, "place 1 of one", OUTSIDE, () -> x.earlier(0, 0, 2, 1));
            due("place 1 of two", x.earlier(1, 0, 2, 1), NONE);
            EDGES.refused(x, "place 2 of two", OUTSIDE, () -> x.earlier(1, 0, 2, 2));
        });
        EDGES.test(23, "UNKNOWN ahead of OUTSIDE", x -> {
            x.print(4);
            EDGES.refused(x, "print and side", UNKNOWN, () -> x.earlier(1, 8, 2, 1));
            EDGES.refused(x, "print and round", UNKNOWN, () -> x.earlier(-1, 0, 1, 1));
            EDGES.refused(x, "print and place", UNKNOWN, () -> x.earlier(1, 0, 2, 4));
        });
    }
}
