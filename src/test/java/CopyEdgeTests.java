import java.util.function.IntUnaryOperator;

/** The boundaries that promises 24 to 27 name: prints from prints. */
public final class CopyEdgeTests {
    private static final int NONE = Edges.NONE, UNKNOWN = Edges.UNKNOWN, OUTSIDE = Edges.OUTSIDE;
    private static final int STATE = Edges.STATE;
    private static final Edges EDGES = new Edges("CopyEdgeTests", 24, 27);

    public static void main(String[] args) {
        lacksByOne();
        lacksByNone();
        lacksRefused();
        treeOfFew();
        treeRings();
        treeLikeOnes();
        treeOfFewer();
        treeTwelveTimes();
        treeRefused();
        wholeOfFew();
        wholeSwitches();
        wholeLikeOnes();
        wholeLeftOut();
        wholeRefused();
        leftAtMostOne();
        leftSides();
        leftRefused();
        EDGES.close();
    }

    private static void due(String what, long got, long want) {
        EDGES.due(what, got, want);
    }

    private static void prints(LinesDownFilm x, int... sizes) {
        for (int n : sizes) {
            x.print(n);
        }
    }

    private static void outside(LinesDownFilm x, int[] numbers, String what, IntUnaryOperator answer) {
        for (int number : numbers) {
            EDGES.refused(x, what + " " + number, OUTSIDE, () -> answer.applyAsInt(number));
        }
    }

    private static void lacksByOne() {
        EDGES.test(24, "WHITE MARKS of q of which p has neither a BLACK nor a WHITE one", x -> {
            prints(x, 4, 4);
            Edges.paint(x, 0, 3, 1, 0, 1, 2, 3);
            due("p has none", x.lacks(0, 1, 0), 4);
            Edges.paint(x, 1, 3, 0, 0);
            due("p has a black one", x.lacks(0, 1, 0), 3);
            Edges.paint(x, 1, 3, 1, 3);
            due("p has a white one", x.lacks(0, 1, 0), 2);
            Edges.paint(x, 1, 3, 1, 0);
            due("p has both of one", x.lacks(0, 1, 0), 2);
            Edges.paint(x, 1, 3, 0, 1, 2);
            due("p has all", x.lacks(0, 1, 0), 0);
        });
        EDGES.test(24, "BLACK ones of q don't count", x -> {
            prints(x, 4, 4);
            Edges.paint(x, 0, 3, 0, 0, 1, 2, 3);
            due("lacks", x.lacks(0, 1, 0), 0);
            due("by none", x.lacks(0, NONE, 0), 0);
        });
        EDGES.test(24, "on the same SIDE: the least and the greatest", x -> {
            prints(x, 1, 1);
            x.mark(0, 0, 0, 1, true);
            x.mark(0, 0, 7, 1, true);
            x.mark(1, 0, 1, 0, true);
            x.mark(1, 0, 6, 1, true);
            due("other sides", x.lacks(0, 1, 0), 2);
            x.mark(1, 0, 7, 1, true);
            due("side 7", x.lacks(0, 1, 0), 1);
            x.mark(1, 0, 0, 0, true);
            due("side 0, too", x.lacks(0, 1, 0), 0);
        });
        EDGES.test(24, "of a PICTURE of that FRAME, not at that place", x -> {
            prints(x, 4, 4);
            x.mend(1, 0, 0);
            Edges.paint(x, 0, 0, 1, 2);
            Edges.paint(x, 1, 0, 0, 1);
            due("frame 2 of both", x.lacks(0, 1, 0), 8);
            x.mark(1, 1, 0, 0, false);
            x.mark(1, 2, 0, 0, true);
            due("frame 3 of p", x.lacks(0, 1, 0), 9);
        });
        EDGES.test(24, "8 for each PICTURE of q whose FRAME p has not: none, one, all but one, all", x -> {
            prints(x, 5, 5, 5, 5);
            x.mend(2, 0, 0);
            x.mend(3, 0, 3);
            due("none", x.lacks(0, 1, 0), 0);
            due("one", x.lacks(0, 2, 0), 8);
            due("all but one", x.lacks(0, 3, 0), 4 * 8);
            x.mend(0, 1, 4);
            due("the one there is", x.lacks(0, 3, 0), 8);
        });
        EDGES.test(24, "FRAMES of p that q has not don't count", x -> {
            prints(x, 1, 48);
            due("48 from 1", x.lacks(1, 0, 0), 47 * 8);
            due("1 from 48", x.lacks(0, 1, 0), 0);
        });
        EDGES.test(24, "WHITE MARKS of a PICTURE whose FRAME p has not count, too", x -> {
            prints(x, 2, 1);
            Edges.paint(x, 0, 0, 1, 1);
            Edges.paint(x, 0, 7, 1, 1);
            due("two and 8", x.lacks(0, 1, 0), 10);
        });
        EDGES.test(24, "as many as there may be", x -> {
            prints(x, 48, 48);
            Typing.machine(x, "g0,g1,g2,g3");
            Typing.machine(x, "g4,g5,g6,g7");
            x.run(0, 0, false);
            x.run(0, 1, false);
            x.copy(0);
            due("of all sides", x.lacks(2, 1, 99), 48 * 8);
            due("by none", x.lacks(2, NONE, 99), 48 * 8 + 99);
            due("from its own", x.lacks(2, 0, 99), 0);
        });
        EDGES.test(24, "the COST is for none alone", x -> {
            prints(x, 2, 2);
            due("by the other", x.lacks(0, 1, 99), 0);
        });
    }

    private static void lacksByNone() {
        EDGES.test(24, "a COST: 0 to 99", x -> {
            x.print(2);
            due("0", x.lacks(0, NONE, 0), 0);
            due("1", x.lacks(0, NONE, 1), 1);
            due("99", x.lacks(0, NONE, 99), 99);
        });
        EDGES.test(24, "by none: WHITE MARKS of q, and a COST", x -> {
            x.print(3);
            Edges.paint(x, 0, 0, 1, 0, 1, 2);
            Edges.paint(x, 0, 7, 1, 2);
            due("four and 5", x.lacks(0, NONE, 5), 9);
        });
    }

    private static void lacksRefused() {
        EDGES.test(24, "UNKNOWN: q", x -> {
            EDGES.refused(x, "q 0 of none", UNKNOWN, () -> x.lacks(0, NONE, 0));
            prints(x, 2, 2);
            for (int q : Edges.around(2)) {
                EDGES.refused(x, "q " + q, UNKNOWN, () -> x.lacks(q, 0, 0));
                EDGES.refused(x, "q " + q + " by none", UNKNOWN, () -> x.lacks(q, NONE, 0));
            }
        });
        EDGES.test(24, "UNKNOWN: p, but for NONE", x -> {
            prints(x, 2, 2);
            due("NONE", x.lacks(1, NONE, 3), 3);
            for (int p : Edges.around(2)) {
                if (p != NONE) {
                    EDGES.refused(x, "p " + p, UNKNOWN, () -> x.lacks(0, p, 0));
                }
            }
        });
        EDGES.test(24, "UNKNOWN: they are the same", x -> {
            for (int i = 0; i < 6; i++) {
                x.print(2);
                int same = i;
                EDGES.refused(x, "both " + i, UNKNOWN, () -> x.lacks(same, same, 0));
            }
            EDGES.refused(x, "both NONE", UNKNOWN, () -> x.lacks(NONE, NONE, 0));
            EDGES.refused(x, "both 6", UNKNOWN, () -> x.lacks(6, 6, 0));
        });
        EDGES.test(24, "OUTSIDE: cost is 0 to 99", x -> {
            prints(x, 2, 2);
            outside(x, Edges.around(100), "cost", cost -> x.lacks(0, 1, cost));
            outside(x, Edges.around(100), "by none, cost", cost -> x.lacks(0, NONE, cost));
        });
        EDGES.test(24, "UNKNOWN ahead of OUTSIDE", x -> {
            prints(x, 2, 2);
            EDGES.refused(x, "q and cost", UNKNOWN, () -> x.lacks(2, 0, 100));
            EDGES.refused(x, "p and cost", UNKNOWN, () -> x.lacks(0, 2, -1));
            EDGES.refused(x, "the same and cost", UNKNOWN, () -> x.lacks(0, 0, 100));
        });
    }

    private static void isTree(LinesDownFilm x, int cost, int together, int... from) {
        due("together", x.tree(cost, 0), together);
        for (int i = 0; i < from.length; i++) {
            due("print " + i + " is from", x.tree(cost, 1 + i), from[i]);
        }
    }

    private static void treeOfFew() {
        EDGES.test(25, "one PRINT: from none", x -> {
            x.print(3);
            Edges.paint(x, 0, 0, 1, 0, 2);
            isTree(x, 0, 2, NONE);
            isTree(x, 99, 101, NONE);
        });
        EDGES.test(25, "from another ahead of none, where both lack nothing by a COST of 0", x -> {
            prints(x, 1, 48);
            // 1 lacks 47 FRAMES in 0; 0 lacks nothing in 1, and nothing by none
            isTree(x, 0, 0, 1, NONE);
        });
        EDGES.test(25, "six PRINTS, each copied from the one ahead", x -> {
            x.print(3);
            for (int i = 0; i < 5; i++) {
                x.mark(i, 0, i, 0, true);
                x.copy(i);
            }
            isTree(x, 7, 7, NONE, 0, 1, 2, 3, 4);
        });
        EDGES.test(25, "six PRINTS, each copied from the one behind", x -> {
            prints(x, 1, 1, 1, 1, 1, 1);
            for (int i = 0; i < 5; i++) {
                for (int side = 0; side < 5 - i; side++) {
                    x.mark(i, 0, side, 1, true);
                }
            }
            // each has one white mark more than the one behind it
            isTree(x, 3, 3 + 5, 1, 2, 3, 4, 5, NONE);
        });
        EDGES.test(25, "the COST: the least and the greatest", x -> {
            prints(x, 12, 48, 12);
            Edges.paint(x, 1, 0, 1, 47);
            // 1 lacks 36 FRAMES and a MARK in 0 and in 2
            isTree(x, 0, 1, 1, NONE, 0);
            isTree(x, 99, 100, 1, NONE, 0);
        });
        EDGES.test(25, "from none or from another: the COST is one less, as much, one more", x -> {
            prints(x, 3, 1);
            x.mend(0, 0, 0);
            // 0 lacks nothing but COST by none, 16 in 1; 1 lacks 8 in 0, and COST by none
            due("8", x.lacks(1, 0, 0), 8);
            isTree(x, 7, 14, NONE, NONE);
            isTree(x, 8, 16, NONE, 0);
            isTree(x, 9, 17, NONE, 0);
        });
    }

    private static void treeRings() {
        EDGES.test(25, "nobody comes from itself in the end: two", x -> {
            prints(x, 2, 2);
            Edges.paint(x, 0, 0, 1, 0, 1);
            Edges.paint(x, 1, 0, 1, 0, 1);
            // each lacks nothing in the other, 2 and COST by none
            isTree(x, 50, 52, 1, NONE);
        });
        EDGES.test(25, "nobody comes from itself in the end: two, and a third aside", x -> {
            prints(x, 2, 2, 2);
            Edges.paint(x, 0, 0, 1, 0, 1);
            Edges.paint(x, 2, 0, 1, 0, 1);
            // 0 and 2 lack nothing in each other, 2 in 1; 1 nothing in all
            isTree(x, 50, 52, 1, NONE, 0);
        });
        EDGES.test(25, "nobody comes from itself in the end: six", x -> {
            prints(x, 1, 1, 1, 1, 1, 1);
            isTree(x, 4, 4, 1, 2, 3, 4, 5, NONE);
        });
        EDGES.test(25, "together least, where the least of each would be a ring", x -> {
            prints(x, 1, 1, 1);
            for (int side : new int[] {0, 1, 2, 3}) {
                x.mark(0, 0, side, 1, true);
            }
            for (int side : new int[] {0, 1, 2, 6, 7}) {
                x.mark(1, 0, side, 1, true);
            }
            x.mark(2, 0, 3, 0, true);
            // 0: 1 in 1, 3 in 2, 4 and 9 by none; 1: 2 in 0, 5 in 2, 5 and 9 by none; 2: 0 in both, 9 by none
            isTree(x, 9, 9 + 3 + 2, 2, 0, NONE);
        });
    }

    private static void treeLikeOnes() {
        EDGES.test(25, "of like ones the least PRINT: the first ahead of the second", x -> {
            prints(x, 1, 1, 1);
            isTree(x, 6, 6, 1, 2, NONE);
        });
        EDGES.test(25, "of like ones none is behind all", x -> {
            prints(x, 1, 1);
            isTree(x, 0, 0, 1, NONE);
        });
        EDGES.test(25, "of like ones by the first PRINT, though the second is greater then", x -> {
            prints(x, 1, 1, 1);
            x.mark(0, 0, 0, 1, true);
            x.mark(2, 0, 0, 1, true);
            // 0: 1 in 1, 0 in 2; 2: 0 in 0, 1 in 1; 1: 0 in all; by none 1, 0, 1 and COST
            isTree(x, 5, 6, 1, NONE, 0);
        });
        EDGES.test(25, "of like ones the last PRINT's from is the least, too", x -> {
            prints(x, 1, 1, 1, 1);
            x.mark(0, 0, 0, 0, true);
            x.mark(3, 0, 0, 1, true);
            x.mark(1, 0, 0, 0, true);
            // 3 lacks nothing in 0 and 1
            isTree(x, 2, 2, 1, 2, NONE, 0);
        });
    }

    private static void treeOfFewer() {
        EDGES.test(25, "of PRINTS that there are, where there were more", x -> {
            prints(x, 3, 3);
            Edges.paint(x, 0, 0, 1, 0, 1, 2);
            Edges.paint(x, 0, 1, 0, 0, 1);
            Edges.paint(x, 1, 1, 1, 0, 1);
            x.image();
            for (int print = 2; print < 6; print++) {
                x.print(3);
                Edges.paint(x, print, print, 1, 0, 1);
            }
            // 1 lacks nothing in 0; the others have white marks of their own: 3, and 2 of each
            due("six", x.tree(5, 0), 5 + 3 + 4 * 2);
            x.restore();
            // 0 lacks 3 in 1 and 1 has 2 and 5 by none; 0 has 3 and 5 by none and 1 lacks nothing in 0
            isTree(x, 5, 8, NONE, 0);
            EDGES.refused(x, "what 3", OUTSIDE, () -> x.tree(5, 3));
        });
        EDGES.test(25, "of PRINTS that there are, where there were fewer", x -> {
            x.print(1);
            x.mark(0, 0, 0, 1, true);
            isTree(x, 5, 6, NONE);
            x.copy(0);
            isTree(x, 5, 6, 1, NONE);
            x.copy(0);
            isTree(x, 5, 6, 1, 2, NONE);
        });
    }

    private static void treeTwelveTimes() {
        EDGES.test(25, "STATE: tree() was done 12 times", x -> {
            x.print(2);
            for (int i = 1; i <= 12; i++) {
                due("tree " + i, x.tree(i, i % 2), i % 2 == 0 ? i : NONE);
                due("done", x.count(6), i);
            }
            EDGES.refused(x, "the thirteenth", STATE, () -> x.tree(0, 0));
            EDGES.refused(x, "the fourteenth", STATE, () -> x.tree(0, 1));
            due("done", x.count(6), 12);
        });
        EDGES.test(25, "refusals do not count", x -> {
            EDGES.refused(x, "no prints", STATE, () -> x.tree(0, 0));
            x.print(2);
            for (int i = 0; i < 20; i++) {
                EDGES.refused(x, "cost", OUTSIDE, () -> x.tree(100, 0));
                EDGES.refused(x, "what", OUTSIDE, () -> x.tree(0, 2));
            }
            for (int i = 1; i <= 12; i++) {
                due("tree " + i, x.tree(1, 0), 1);
            }
            EDGES.refused(x, "the thirteenth", STATE, () -> x.tree(1, 0));
        });
        EDGES.test(25, "12 times ever: restore() gives none back", x -> {
            x.print(2);
            x.image();
            for (int i = 1; i <= 12; i++) {
                x.tree(1, 0);
                x.restore();
                due("done", x.count(6), i);
            }
            EDGES.refused(x, "the thirteenth", STATE, () -> x.tree(1, 0));
        });
        EDGES.test(25, "12 times ever: other PRINTS give none back", x -> {
            x.print(2);
            for (int i = 1; i <= 12; i++) {
                x.tree(1, 0);
            }
            x.print(3);
            x.copy(0);
            x.mend(0, 0, 0);
            x.clear();
            x.blank();
            EDGES.refused(x, "the thirteenth", STATE, () -> x.tree(1, 3));
        });
    }

    private static void treeRefused() {
        EDGES.test(25, "OUTSIDE: cost is 0 to 99", x -> {
            x.print(2);
            outside(x, Edges.around(100), "cost", cost -> x.tree(cost, 0));
            due("99", x.tree(99, 0), 99);
            due("0", x.tree(0, 0), 0);
        });
        for (int n = 1; n <= 6; n++) {
            int there = n;
            EDGES.test(25, "OUTSIDE: what is 0 to how many PRINTS there are: " + there, x -> {
                for (int i = 0; i < there; i++) {
                    x.print(1);
                }
                due("what 0", x.tree(5, 0), 5);
                due("what " + there, x.tree(5, there), NONE);
                outside(x, Edges.around(there + 1), "what", what -> x.tree(5, what));
            });
        }
        EDGES.test(25, "STATE: there are no PRINTS", x -> EDGES.refused(x, "what 0", STATE, () -> x.tree(0, 0)));
        EDGES.test(25, "STATE: there are no PRINTS any more", x -> {
            x.image();
            x.print(2);
            due("one", x.tree(0, 0), 0);
            x.restore();
            EDGES.refused(x, "none", STATE, () -> x.tree(0, 0));
        });
        EDGES.test(25, "OUTSIDE ahead of STATE: no PRINTS", x -> {
            EDGES.refused(x, "cost", OUTSIDE, () -> x.tree(100, 0));
            EDGES.refused(x, "what -1", OUTSIDE, () -> x.tree(0, -1));
            EDGES.refused(x, "what 7", OUTSIDE, () -> x.tree(0, 7));
            EDGES.refused(x, "what 1, of PRINTS that there are", OUTSIDE, () -> x.tree(0, 1));
        });
        EDGES.test(25, "OUTSIDE ahead of STATE: done 12 times", x -> {
            x.print(2);
            for (int i = 1; i <= 12; i++) {
                x.tree(1, 0);
            }
            EDGES.refused(x, "cost", OUTSIDE, () -> x.tree(-1, 0));
            EDGES.refused(x, "what", OUTSIDE, () -> x.tree(0, 2));
        });
    }

    private static void isWhole(LinesDownFilm x, int n, int cost, int together, int... from) {
        String call = "cost " + cost + ": ";
        due(call + "together", x.whole(n, cost, 0), together);
        int out = 0;
        for (int f = 0; f < n; f++) {
            due(call + "frame " + f, x.whole(n, cost, 10 + f), from[f]);
            out += from[f] == NONE ? 1 : 0;
        }
        due(call + "left out", x.whole(n, cost, 1), out);
    }

    private static void wholeOfFew() {
        EDGES.test(26, "n is 1 at least", x -> {
            prints(x, 2, 2);
            x.mark(0, 0, 0, 0, true);
            isWhole(x, 1, 99, 0, 1);
        });
        EDGES.test(26, "n is 48 at most", x -> {
            prints(x, 48);
            x.mark(0, 47, 7, 1, true);
            due("together", x.whole(48, 0, 0), 1);
            due("left out", x.whole(48, 0, 1), 0);
            due("frame 47", x.whole(48, 0, 57), 0);
            due("one less", x.whole(47, 0, 0), 0);
        });
        EDGES.test(26, "one PRINT: all MARKS of it, BLACK and WHITE ones", x -> {
            prints(x, 3);
            x.mark(0, 0, 0, 0, true);
            x.mark(0, 0, 0, 1, true);
            x.mark(0, 2, 7, 1, true);
            isWhole(x, 3, 99, 3, 0, 0, 0);
        });
        EDGES.test(26, "as many MARKS as there may be", x -> {
            prints(x, 48);
            Typing.machine(x, "g0,g1,g2,g3");
            Typing.machine(x, "g4,g5,g6,g7");
            x.run(0, 0, false);
            x.run(0, 1, false);
            due("black ones", x.whole(48, 0, 0), 8 * 48);
            x.image();
            for (int i = 0; i < 5; i++) {
                x.copy(0);
            }
            due("six", x.whole(48, 99, 0), 8 * 48);
            due("the least print", x.whole(48, 99, 57), 0);
        });
        EDGES.test(26, "the sixth PRINT", x -> {
            prints(x, 1, 1, 1, 1, 1, 1);
            for (int print = 0; print < 5; print++) {
                x.mark(print, 0, 0, 0, true);
            }
            isWhole(x, 1, 99, 0, 5);
        });
    }

    private static void wholeSwitches() {
        EDGES.test(26, "SWITCH for each change: one less than it saves, as much, one more", x -> {
            prints(x, 2, 2);
            for (int side = 0; side < 5; side++) {
                x.mark(0, 1, side, 0, true);
                x.mark(1, 0, side, 1, true);
            }
            isWhole(x, 2, 4, 4, 0, 1);
            isWhole(x, 2, 5, 5, 0, 0);
            isWhole(x, 2, 6, 5, 0, 0);
        });
        EDGES.test(26, "SWITCH of 0: each FRAME by itself", x -> {
            prints(x, 4, 4);
            Edges.paint(x, 0, 0, 0, 0, 2);
            Edges.paint(x, 1, 0, 0, 1, 3);
            isWhole(x, 4, 0, 0, 1, 0, 1, 0);
            isWhole(x, 4, 1, 2, 0, 0, 0, 0);
        });
        EDGES.test(26, "SWITCH of 99", x -> {
            prints(x, 2, 3);
            x.mend(1, 0, 1);
            isWhole(x, 3, 99, 99, 0, 0, 1);
        });
        EDGES.test(26, "the first FRAME is no change", x -> {
            prints(x, 2, 2);
            Edges.paint(x, 0, 0, 0, 0, 1);
            isWhole(x, 2, 99, 0, 1, 1);
        });
        EDGES.test(26, "each change costs: two of them", x -> {
            prints(x, 3, 3);
            x.mend(0, 1, 1);
            x.mend(1, 2, 2);
            x.mend(1, 0, 0);
            isWhole(x, 3, 7, 14, 0, 1, 0);
        });
    }

    private static void wholeLikeOnes() {
        EDGES.test(26, "of like ones the least PRINT", x -> {
            prints(x, 3, 3, 3);
            isWhole(x, 3, 0, 0, 0, 0, 0);
        });
        EDGES.test(26, "of like ones by the first FRAME, then the second and so on", x -> {
            prints(x, 2, 2);
            x.mark(0, 1, 0, 0, true);
            x.mark(1, 0, 0, 0, true);
            // 0 0, 0 1 and 1 1 are 1 each
            isWhole(x, 2, 1, 1, 0, 0);
            LinesDownFilm y = new LinesDownFilm();
            prints(y, 3, 3);
            y.mark(0, 1, 0, 0, true);
            y.mark(0, 2, 0, 0, true);
            y.mark(1, 0, 0, 0, true);
            // 0 1 1 and 1 1 1 are 1 each, 0 0 0 and 0 0 1 are 2
            isWhole(y, 3, 1, 1, 0, 1, 1);
        });
        EDGES.test(26, "of like ones the change that is late: the second FRAME's least PRINT", x -> {
            prints(x, 3, 3);
            x.mend(0, 2, 2);
            x.mend(1, 0, 0);
            // 0 0 1 and 0 1 1 are one change each
            isWhole(x, 3, 5, 5, 0, 0, 1);
        });
        EDGES.test(26, "of like ones: not the least PRINT where it is dearer behind", x -> {
            prints(x, 2, 2);
            x.mark(0, 1, 0, 0, true);
            isWhole(x, 2, 9, 0, 1, 1);
        });
    }

    private static void wholeLeftOut() {
        EDGES.test(26, "0: no FRAME can be had", x -> {
            prints(x, 5);
            x.mend(0, 0, 3);
            x.mark(0, 0, 0, 0, true);
            isWhole(x, 4, 99, 0, NONE, NONE, NONE, NONE);
            isWhole(x, 5, 99, 1, NONE, NONE, NONE, NONE, 0);
        });
        EDGES.test(26, "0: no FRAME can be had, behind one that could be", x -> {
            prints(x, 5);
            x.mend(0, 0, 3);
            x.mark(0, 0, 0, 0, true);
            due("all five", x.whole(5, 3, 0), 1);
            due("four", x.whole(4, 3, 0), 0);
            due("four left out", x.whole(4, 3, 1), 4);
            due("all five again", x.whole(5, 3, 1), 4);
        });
        EDGES.test(26, "left out: those behind all PRINTS", x -> {
            prints(x, 1);
            due("47 of 48", x.whole(48, 3, 1), 47);
            due("frame 47", x.whole(48, 3, 57), NONE);
            due("frame 1", x.whole(48, 3, 11), NONE);
            due("frame 0", x.whole(48, 3, 10), 0);
        });
        EDGES.test(26, "left out is no change", x -> {
            prints(x, 4);
            x.mend(0, 1, 2);
            isWhole(x, 4, 99, 0, 0, NONE, NONE, 0);
        });
        EDGES.test(26, "left out: the PRINT ahead counts on", x -> {
            prints(x, 3, 3);
            x.mend(0, 1, 2);
            x.mend(1, 0, 1);
            isWhole(x, 3, 99, 99, 0, NONE, 1);
        });
        EDGES.test(26, "left out: at the start it is no change", x -> {
            prints(x, 3);
            x.mend(0, 0, 1);
            isWhole(x, 3, 99, 0, NONE, NONE, 0);
        });
        EDGES.test(26, "a FRAME that one PRINT has is not left out", x -> {
            prints(x, 3, 2);
            x.mark(0, 2, 3, 0, true);
            isWhole(x, 3, 99, 1, 0, 0, 0);
        });
    }

    private static void wholeRefused() {
        EDGES.test(26, "OUTSIDE: n is 1 to 48", x -> {
            x.print(2);
            EDGES.refused(x, "n 0", OUTSIDE, () -> x.whole(0, 0, 0));
            outside(x, Edges.around(49), "n", n -> x.whole(n, 0, 0));
        });
        EDGES.test(26, "OUTSIDE: cost is 0 to 99", x -> {
            x.print(2);
            outside(x, Edges.around(100), "cost", cost -> x.whole(1, cost, 0));
        });
        EDGES.test(26, "OUTSIDE: what is 0, 1, and 10 to 9 and n", x -> {
            x.print(2);
            outside(x, new int[] {2, 3, 4, 5, 6, 7, 8, 9}, "what", what -> x.whole(48, 0, what));
            outside(x, Edges.around(58), "what", what -> x.whole(48, 0, what));
            due("what 57", x.whole(48, 0, 57), NONE);
            due("what 10", x.whole(48, 0, 10), 0);
        });
        EDGES.test(26, "OUTSIDE: what is 9 and n at most, of n from 1 to 47", x -> {
            x.print(48);
            for (int n = 1; n <= 47; n++) {
                int frames = n;
                due("what " + (9 + n) + " of " + n, x.whole(n, 0, 9 + n), 0);
                EDGES.refused(x, "what " + (10 + n) + " of " + n, OUTSIDE, () -> x.whole(frames, 0, 10 + frames));
            }
        });
        EDGES.test(26, "STATE: there are no PRINTS", x -> {
            EDGES.refused(x, "what 0", STATE, () -> x.whole(1, 0, 0));
            EDGES.refused(x, "what 57", STATE, () -> x.whole(48, 99, 57));
        });
        EDGES.test(26, "OUTSIDE ahead of STATE", x -> {
            EDGES.refused(x, "n 0", OUTSIDE, () -> x.whole(0, 0, 0));
            EDGES.refused(x, "n 49", OUTSIDE, () -> x.whole(49, 0, 0));
            EDGES.refused(x, "cost 100", OUTSIDE, () -> x.whole(1, 100, 0));
            EDGES.refused(x, "what 2", OUTSIDE, () -> x.whole(1, 0, 2));
            EDGES.refused(x, "what 11 of one", OUTSIDE, () -> x.whole(1, 0, 11));
        });
    }

    private static void leftAtMostOne() {
        EDGES.test(27, "of all other PRINTS at most one has no MARK there: no other", x -> {
            prints(x, 1);
            x.mark(0, 0, 0, 0, true);
            due("left", x.left(0), 1);
        });
        EDGES.test(27, "of all other PRINTS at most one has no MARK there: one, two, up to five", x -> {
            prints(x, 1);
            x.mark(0, 0, 7, 1, true);
            for (int others = 1; others <= 5; others++) {
                x.print(1);
                due(others + " that have none", x.left(0), others <= 1 ? 1 : 0);
            }
        });
        EDGES.test(27, "others that have one there don't count: BLACK or WHITE", x -> {
            prints(x, 1, 1, 1, 1);
            x.mark(0, 0, 2, 0, true);
            due("three have none", x.left(0), 0);
            x.mark(1, 0, 2, 0, true);
            due("two have none", x.left(0), 0);
            x.mark(2, 0, 2, 1, true);
            due("one has none", x.left(0), 1);
            x.mark(3, 0, 2, 1, true);
            due("all have one", x.left(0), 1);
        });
        EDGES.test(27, "others that have not the FRAME don't count", x -> {
            prints(x, 3, 3, 3);
            x.mark(0, 2, 0, 0, true);
            due("both have it", x.left(0), 0);
            x.mend(2, 2, 2);
            due("one has it", x.left(0), 1);
            x.mend(1, 0, 0);
            due("one has it, elsewhere", x.left(0), 1);
        });
        EDGES.test(27, "by FRAME, not by place", x -> {
            prints(x, 3, 3, 3);
            x.mend(1, 0, 0);
            x.mend(2, 0, 0);
            x.mark(0, 1, 0, 0, true);
            due("both have none", x.left(0), 0);
            x.mark(1, 1, 0, 0, true);
            due("a mark on another FRAME", x.left(0), 0);
            x.mark(1, 0, 0, 0, true);
            due("a mark on that FRAME", x.left(0), 1);
        });
    }

    private static void leftSides() {
        EDGES.test(27, "SIDES of its PICTURES: none, and as many as there may be", x -> {
            prints(x, 48);
            due("none", x.left(0), 0);
            Typing.machine(x, "g0,g1,g2,g3");
            Typing.machine(x, "g4,g5,g6,g7");
            x.run(0, 0, false);
            x.run(0, 1, false);
            due("all", x.left(0), 8 * 48);
            x.copy(0);
            due("all of two", x.left(0), 8 * 48);
            due("all of the copy", x.left(1), 8 * 48);
        });
        EDGES.test(27, "a SIDE with a BLACK and a WHITE one is one", x -> {
            prints(x, 1);
            x.mark(0, 0, 4, 0, true);
            x.mark(0, 0, 4, 1, true);
            due("left", x.left(0), 1);
        });
        EDGES.test(27, "on that SIDE: others may have one on another", x -> {
            prints(x, 1, 1, 1);
            x.mark(0, 0, 0, 0, true);
            x.mark(1, 0, 1, 0, true);
            x.mark(2, 0, 7, 1, true);
            due("side 0", x.left(0), 0);
            due("side 1", x.left(1), 0);
            due("side 7", x.left(2), 0);
        });
        EDGES.test(27, "sums: the two that have none need not be the same for each SIDE", x -> {
            prints(x, 1, 1, 1, 1);
            x.mark(0, 0, 0, 0, true);
            x.mark(0, 0, 7, 0, true);
            x.mark(1, 0, 0, 0, true);
            x.mark(3, 0, 7, 0, true);
            due("left", x.left(0), 0);
            x.mark(2, 0, 7, 0, true);
            due("side 7 is left", x.left(0), 1);
        });
        EDGES.test(27, "sums: the two that have none need not be next to each other", x -> {
            prints(x, 1, 1, 1, 1, 1, 1);
            for (int print : new int[] {0, 2, 3, 4}) {
                x.mark(print, 0, 3, 0, true);
            }
            due("1 and 5 have none", x.left(0), 0);
            due("1 and 5 have none, of 4", x.left(4), 0);
            x.mark(5, 0, 3, 1, true);
            due("1 alone has none", x.left(0), 1);
        });
    }

    private static void leftRefused() {
        EDGES.test(27, "UNKNOWN", x -> {
            EDGES.refused(x, "print 0 of none", UNKNOWN, () -> x.left(0));
            for (int n = 1; n <= 6; n++) {
                x.print(1);
                due("the last one", x.left(n - 1), 0);
                for (int print : new int[] {Edges.LOW, -1, n, n + 1, 32, Edges.HIGH}) {
                    EDGES.refused(x, "print " + print + " of " + n, UNKNOWN, () -> x.left(print));
                }
            }
        });
    }
}
