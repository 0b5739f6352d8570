/** The boundaries that promises 1 to 7 name: a new object, the page, and machines. */
public final class MachineEdgeTests {
    private static final int NONE = Edges.NONE, UNKNOWN = Edges.UNKNOWN, OUTSIDE = Edges.OUTSIDE;
    private static final int STATE = Edges.STATE, FULL = Edges.FULL;
    private static final Edges EDGES = new Edges("MachineEdgeTests", 1, 7);
    private static final String LONGEST = "r0o19p18,t1o18p17,r6o17p16,w7o19p9";
    private static final String FOUR_KINDS = "g3,r7o12p11,t1o2p1,w0o19p9";

    public static void main(String[] args) {
        newObject();
        lettersLet();
        lettersOutside();
        lettersFull();
        blank();
        faultOfFew();
        faultOfSides();
        faultOfRounds();
        faultOfPhases();
        faultOfWounds();
        faultOfParts();
        machineNone();
        machineRead();
        machineFull();
        partTold();
        partRefused();
        asKinds();
        asRefused();
        EDGES.close();
    }

    private static void due(String what, long got, long want) {
        EDGES.due(what, got, want);
    }

    private static LinesDownFilm typed(String text) {
        LinesDownFilm x = new LinesDownFilm();
        Typing.type(x, text);
        return x;
    }

    private static String letters(int n) {
        return "a".repeat(n);
    }

    private static void faultIs(String text, int place) {
        LinesDownFilm x = typed(text);
        long before = x.digest();
        due("fault of \"" + text + "\"", x.fault(), place);
        due("fault of \"" + text + "\" changes nothing", x.digest(), before);
    }

    /** All letters of a text could be those of a machine. */
    private static void fits(String text) {
        faultIs(text, text.length());
    }

    /** Just the last letter of a text could not. */
    private static void faultAtEnd(String text) {
        faultIs(text, text.length() - 1);
    }

    private static void isNone(String text) {
        LinesDownFilm x = typed(text);
        EDGES.refused(x, "machine of \"" + text + "\"", STATE, x::machine);
        due("machines by \"" + text + "\"", x.count(1), 0);
        due("letters that stay of \"" + text + "\"", x.count(5), text.length());
    }

    private static void isOne(String text) {
        LinesDownFilm x = typed(text);
        due("machine of \"" + text + "\"", x.machine(), 0);
        due("machines by \"" + text + "\"", x.count(1), 1);
        due("letters behind \"" + text + "\"", x.count(5), 0);
    }

    private static void newObject() {
        EDGES.test(1, "no PRINTS", x -> {
            due("prints", x.count(0), 0);
            due("pictures", x.count(2), 0);
            due("marks", x.count(3), 0);
            due("print 0", x.length(0), UNKNOWN);
            due("its first", x.print(1), 0);
        });
        EDGES.test(1, "no MACHINES", x -> {
            due("machines", x.count(1), 0);
            due("machine 0", x.part(0, 0, 0), UNKNOWN);
            Typing.type(x, "g0");
            due("its first", x.machine(), 0);
        });
        EDGES.test(1, "nothing else is there yet", x -> {
            due("traces", x.count(4), 0);
            due("letters", x.count(5), 0);
            due("how often tree() was done", x.count(6), 0);
            due("image", x.restore(), STATE);
        });
        EDGES.test(1, "an object is used for at most 512 calls: the last of them is as due", x -> {
            x.print(48);
            for (int i = 0; i < 511; i++) {
                due("call " + (i + 2), x.mark(0, i % 48, i / 48 % 8, i / 384, true), 1);
            }
        });
        EDGES.test(1, "another object has what it was given alone", x -> {
            x.print(3);
            Typing.machine(x, "g0");
            Typing.type(x, "abc");
            x.trace(0, 2);
            x.image();
            x.tree(0, 0);
            LinesDownFilm y = new LinesDownFilm();
            for (int what = 0; what <= 6; what++) {
                due("count " + what + " of a second one", y.count(what), 0);
            }
            due("image of a second one", y.restore(), STATE);
            due("digest of a second one", y.digest(), new LinesDownFilm().digest());
        });
    }

    private static void lettersLet() {
        EDGES.test(2, "until a byte that is 0: none at all", x -> {
            due("none", x.letters(0), 0);
            x.letters('g');
            due("none behind one", x.letters(0), 1);
        });
        EDGES.test(2, "until a byte that is 0: one to seven", x -> {
            int had = 0;
            for (int n = 1; n <= 7; n++) {
                had += n;
                due(n + " letters", x.letters(Typing.word(letters(n))), had);
            }
        });
        EDGES.test(2, "up to eight", x -> {
            due("eight", x.letters(Typing.word(letters(8))), 8);
            due("eight more", x.letters(Typing.word(letters(8))), 16);
        });
        EDGES.test(2, "the least code is 1", x -> {
            due("1", x.letters(1), 1);
            due("eight of 1", x.letters(0x0101010101010101L), 9);
        });
        EDGES.test(2, "the greatest code is 126", x -> {
            due("126", x.letters(126), 1);
            due("eight of 126", x.letters(0x7e7e7e7e7e7e7e7eL), 9);
        });
        EDGES.test(2, "the lowest byte first, behind the page", x -> {
            x.letters(Typing.word("r7"));
            x.letters(Typing.word("o12p1"));
            x.letters('1');
            due("machine", x.machine(), 0);
            due("ROUND", x.part(0, 0, 2), 12);
            due("PHASE", x.part(0, 0, 3), 11);
        });
        EDGES.test(2, "the eighth byte is behind the seventh", x -> {
            x.letters(Typing.word("r7o12p11"));
            due("fault", x.fault(), 8);
            due("machine", x.machine(), 0);
            due("PHASE", x.part(0, 0, 3), 11);
        });
    }

    private static void lettersOutside() {
        EDGES.test(2, "OUTSIDE: a byte above 126", x -> {
            for (int place = 0; place < 8; place++) {
                long ahead = Typing.word(letters(place));
                for (long code : new long[] {127, 128, 129, 200, 254, 255}) {
                    long w = code << 8 * place | ahead;
                    EDGES.refused(x, code + " as byte " + place, OUTSIDE, () -> x.letters(w));
                }
            }
            due("letters", x.count(5), 0);
        });
        EDGES.test(2, "OUTSIDE: a byte above 126 behind a 0", x ->
            EDGES.refused(x, "255 behind a 0", OUTSIDE, () -> x.letters(0xff0061L)));
        EDGES.test(2, "OUTSIDE: a byte behind a 0 that is not 0", x -> {
            for (int zero = 0; zero < 7; zero++) {
                for (int place = zero + 1; place < 8; place++) {
                    long w = 1L << 8 * place | Typing.word(letters(zero));
                    EDGES.refused(x, "1 as byte " + place + ", 0 as byte " + zero, OUTSIDE, () -> x.letters(w));
                }
            }
            due("letters", x.count(5), 0);
        });
        EDGES.test(2, "OUTSIDE: all else behind a 0 is full", x ->
            EDGES.refused(x, "only the lowest byte is 0", OUTSIDE, () -> x.letters(0x6161616161616100L)));
        EDGES.test(2, "OUTSIDE: numbers below 0", x -> {
            EDGES.refused(x, "-1", OUTSIDE, () -> x.letters(-1L));
            EDGES.refused(x, "the lowest long", OUTSIDE, () -> x.letters(Long.MIN_VALUE));
            EDGES.refused(x, "the lowest long and letters", OUTSIDE,
                () -> x.letters(Long.MIN_VALUE | Typing.word(letters(7))));
            EDGES.refused(x, "the highest long", OUTSIDE, () -> x.letters(Long.MAX_VALUE));
        });
        EDGES.test(2, "OUTSIDE leaves the letters ahead of the bad one away", x -> {
            x.letters('g');
            EDGES.refused(x, "0, then 127", OUTSIDE, () -> x.letters('0' | 127 << 8));
            due("letters", x.count(5), 1);
        });
    }

    private static void lettersFull() {
        EDGES.test(2, "FULL: 40 are let", x -> {
            Typing.type(x, letters(32));
            due("40", x.letters(Typing.word(letters(8))), 40);
            due("none at 40", x.letters(0), 40);
        });
        EDGES.test(2, "FULL: above 40", x -> {
            Typing.type(x, letters(33));
            EDGES.refused(x, "41", FULL, () -> x.letters(Typing.word(letters(8))));
            due("the 40th", x.letters(Typing.word(letters(7))), 40);
            EDGES.refused(x, "one more than 40", FULL, () -> x.letters('a'));
            EDGES.refused(x, "eight more than 40", FULL, () -> x.letters(Typing.word(letters(8))));
            due("letters", x.count(5), 40);
        });
        EDGES.test(2, "OUTSIDE ahead of FULL", x -> {
            Typing.type(x, letters(40));
            EDGES.refused(x, "127 at 40", OUTSIDE, () -> x.letters(127));
            EDGES.refused(x, "behind a 0 at 40", OUTSIDE, () -> x.letters(97L << 8));
            EDGES.refused(x, "eight, the last of them 128, at 40", OUTSIDE,
                () -> x.letters(128L << 56 | Typing.word(letters(7))));
        });
        EDGES.test(2, "behind a full page that is blank again", x -> {
            Typing.type(x, letters(40));
            x.blank();
            due("one", x.letters('a'), 1);
        });
    }

    private static void blank() {
        EDGES.test(3, "how many letters it had: none", x -> {
            due("blank", x.blank(), 0);
            due("blank again", x.blank(), 0);
        });
        EDGES.test(3, "how many letters it had: one", x -> {
            x.letters('a');
            due("blank", x.blank(), 1);
        });
        EDGES.test(3, "how many letters it had: as many as there may be", x -> {
            Typing.type(x, letters(40));
            due("blank", x.blank(), 40);
        });
        EDGES.test(3, "the page is empty", x -> {
            Typing.type(x, "g7,");
            x.blank();
            due("letters", x.count(5), 0);
            due("fault", x.fault(), 0);
            due("machine", x.machine(), STATE);
            due("blank again", x.blank(), 0);
        });
        EDGES.test(3, "all but the page stays", x -> {
            Typing.machine(x, "g1");
            x.print(4);
            x.trace(1, 2);
            long before = x.digest();
            Typing.type(x, "g0");
            x.blank();
            due("digest", x.digest(), before);
        });
    }

    private static void faultOfFew() {
        EDGES.test(4, "how many letters it has, if there is none: no letters", x -> due("fault", x.fault(), 0));
        EDGES.test(4, "how many letters it has, if there is none: an unfinished machine", x -> {
            for (int n = 1; n <= LONGEST.length(); n++) {
                fits(LONGEST.substring(0, n));
            }
        });
        EDGES.test(4, "the first letter that no MACHINE has there: at place 0", x -> {
            for (char letter = 1; letter <= 126; letter++) {
                faultIs(String.valueOf(letter), "grtw".indexOf(letter) >= 0 ? 1 : 0);
            }
        });
        EDGES.test(4, "the first such letter, of several", x -> {
            faultIs("g9,g9", 1);
            faultIs("g0,x,x", 3);
            faultIs("xyz", 0);
        });
        EDGES.test(4, "behind those ahead of it: as many letters as there may be", x -> {
            faultIs(LONGEST + letters(40 - LONGEST.length()), LONGEST.length());
            faultIs(letters(40), 0);
        });
        EDGES.test(4, "the places of \"o\" and \"p\"", x -> {
            for (char kind : "rtw".toCharArray()) {
                for (String wrong : new String[] {"p", "0", ",", "O", "\u0001"}) {
                    faultAtEnd(kind + "0" + wrong);
                }
                for (String wrong : new String[] {"o", ",", "P", "\u0001"}) {
                    faultAtEnd(kind + "0o5" + wrong);
                }
                fits(kind + "0o5p");
            }
        });
    }

    private static void faultOfSides() {
        EDGES.test(4, "a SIDE is 0 to 7", x -> {
            for (char kind : "grtw".toCharArray()) {
                for (char letter = 1; letter <= 126; letter++) {
                    faultIs(kind + "" + letter, letter >= '0' && letter <= '7' ? 2 : 1);
                }
            }
        });
        EDGES.test(4, "a SIDE has one digit", x -> {
            faultAtEnd("g00");
            faultAtEnd("g10");
            faultAtEnd("r00");
            faultAtEnd("t71");
            faultAtEnd("w07");
        });
        EDGES.test(4, "a GATE has a SIDE alone", x -> {
            faultAtEnd("g0o");
            faultAtEnd("g0p");
            fits("g0,");
        });
    }

    private static void faultOfRounds() {
        for (char kind : "rt".toCharArray()) {
            EDGES.test(4, "ROUND is 2 to 19: " + kind, x -> {
                faultAtEnd(kind + "0o0");
                for (int round = 2; round <= 19; round++) {
                    fits(kind + "0o" + round + "p0");
                }
                for (int digit = 2; digit <= 9; digit++) {
                    faultAtEnd(kind + "0o" + digit + "0");
                }
                faultAtEnd(kind + "0o100");
                faultAtEnd(kind + "0o199");
            });
            EDGES.test(4, "ROUND is not 1, but begins with it: " + kind, x -> {
                fits(kind + "0o1");
                faultAtEnd(kind + "0o1p");
                faultAtEnd(kind + "0o1,");
            });
            EDGES.test(4, "ROUND has no 0 ahead: " + kind, x -> faultIs(kind + "0o02p0", 3));
            EDGES.test(4, "a ROUND alone is no PART: " + kind, x -> faultAtEnd(kind + "0o2,"));
        }
    }

    private static void faultOfPhases() {
        for (char kind : "rt".toCharArray()) {
            for (int round = 2; round <= 19; round++) {
                phases(kind, round);
            }
            EDGES.test(4, "PHASE has no 0 ahead: " + kind, x -> {
                faultAtEnd(kind + "0o5p00");
                faultAtEnd(kind + "0o5p01");
                faultAtEnd(kind + "0o19p01");
            });
            EDGES.test(4, "a PHASE ends with two digits: " + kind, x -> {
                faultAtEnd(kind + "0o19p180");
                faultAtEnd(kind + "0o19p100");
            });
            EDGES.test(4, "a PHASE alone is lacking: " + kind, x -> {
                faultAtEnd(kind + "0o5p,");
                faultAtEnd(kind + "0o19p,");
            });
        }
    }

    private static void phases(char kind, int round) {
        EDGES.test(4, "PHASE is 0 to ROUND less 1: " + kind + " of " + round, x -> {
            for (int phase = 0; phase <= 29; phase++) {
                String text = kind + "3o" + round + "p" + phase;
                if (phase < round) {
                    fits(text + ",g7,");
                    faultAtEnd(text + ",,");
                    faultAtEnd(text + "x");
                } else {
                    // of two digits the first may be a PHASE of its own
                    boolean firstFits = phase >= 10 && phase / 10 < round;
                    faultIs(text, text.length() - (phase >= 10 && !firstFits ? 2 : 1));
                }
            }
        });
    }

    private static void faultOfWounds() {
        EDGES.test(4, "FIRST is 1 to 19", x -> {
            faultAtEnd("w0o0");
            for (int first = 1; first <= 19; first++) {
                fits("w0o" + first + "p0,");
            }
            for (int digit = 2; digit <= 9; digit++) {
                faultAtEnd("w0o" + digit + "0");
            }
            faultAtEnd("w0o100");
            faultAtEnd("w0o190");
        });
        EDGES.test(4, "FIRST has no 0 ahead", x -> faultIs("w0o01p0", 3));
        EDGES.test(4, "FIRST of 1 is one, and the beginning of others", x -> {
            fits("w0o1p");
            fits("w0o10p");
            faultAtEnd("w0o1,");
            faultAtEnd("w0o1o");
        });
        EDGES.test(4, "THICK is 0 to 9", x -> {
            for (int thick = 0; thick <= 9; thick++) {
                fits("w0o1p" + thick + ",");
                fits("w0o19p" + thick + ",");
                faultAtEnd("w0o1p" + thick + "0");
                faultAtEnd("w0o19p" + thick + "0");
            }
            faultAtEnd("w0o1p,");
            faultAtEnd("w0o1p:");
            faultAtEnd("w0o1p/");
        });
        EDGES.test(4, "THICK may be above FIRST", x -> fits("w0o1p9"));
        EDGES.test(4, "THICK has no 0 ahead", x -> faultAtEnd("w0o19p01"));
    }

    private static void faultOfParts() {
        EDGES.test(4, "one to four PARTS", x -> {
            fits("g0");
            fits("g0,g1,g2,g3");
            faultAtEnd("g0,g1,g2,g3,");
            faultAtEnd("r0o19p18,r0o19p18,r0o19p18,r0o19p18,");
        });
        EDGES.test(4, "\",\" between: none ahead, none lacking, one alone", x -> {
            faultIs(",", 0);
            faultAtEnd("g0g");
            faultAtEnd("g0,,");
            faultAtEnd("g0;");
            faultAtEnd("g0, ");
            faultAtEnd("r0o5p4r");
            faultAtEnd("w0o5p4w");
        });
        EDGES.test(4, "each PART is as told, not the first one alone", x -> {
            faultAtEnd("g0,g8");
            faultAtEnd("g0,r0o5p5");
            faultAtEnd("g0,g0,t0o1p");
            faultAtEnd("r0o5p4,r1o2p4");
            faultAtEnd("r0o2p1,r1o19p19");
            faultAtEnd("g0,g0,g0,w0o0");
            fits("g0,g0,g0,w0o1p9");
            fits("r0o2p1,r1o19p18");
        });
    }

    private static void machineNone() {
        EDGES.test(5, "STATE: there are no letters", x -> isNone(""));
        EDGES.test(5, "STATE: it has an end too early", x -> {
            for (String text : new String[] {"g", "g0,", "r", "r0", "r0o", "r0o1", "r0o2", "r0o19", "r0o2p", "w0o1",
                    "w0o19", "w0o1p", "t0o19p", "g0,g1,g2,", "g0,g1,g2,g"}) {
                isNone(text);
            }
        });
        EDGES.test(5, "STATE: it has a letter too many", x -> {
            isNone("g00");
            isNone("g0 ");
            isNone("r0o19p180");
            isNone("w0o19p90");
            isNone("g0,g1,g2,g3,");
            isNone("g0,g1,g2,g3,g4");
        });
        EDGES.test(5, "STATE: just below the least that is let, just above the greatest", x -> {
            for (String text : new String[] {"g8", "r0o1p0", "t0o1p0", "r0o20p0", "t0o20p0", "r0o2p2", "t0o2p2",
                    "r0o9p9", "r0o10p10", "r0o19p19", "t0o19p19", "w0o0p0", "w0o20p0", "w0o1p10", "w8o1p1"}) {
                isNone(text);
            }
        });
        EDGES.test(5, "STATE: numbers with a 0 ahead", x -> {
            for (String text : new String[] {"g00", "r0o02p0", "r0o2p00", "r0o2p01", "w0o01p0", "w0o1p00"}) {
                isNone(text);
            }
        });
        EDGES.test(5, "STATE: a letter from elsewhere", x -> {
            for (String text : new String[] {"G0", " g0", "x", "g-", "r0o-2p0", "g0\u0001", "g\u007e"}) {
                isNone(text);
            }
        });
    }

    private static void machineRead() {
        EDGES.test(5, "the least and the greatest that are let", x -> {
            for (String text : new String[] {"g0", "g7", "r0o2p0", "r0o2p1", "r7o19p0", "r7o19p18", "r0o10p9",
                    "r0o11p10", "t0o2p0", "t7o19p18", "w0o1p0", "w7o19p9", "w0o1p9", "w0o19p0"}) {
                isOne(text);
            }
        });
        EDGES.test(5, "one to four PARTS", x -> {
            isOne("g0");
            isOne("g0,g0");
            isOne("g0,g0,g0");
            isOne("g0,g0,g0,g0");
            isOne(LONGEST);
        });
        EDGES.test(5, "the PARTS that it has are those of the page", x -> {
            due("four", Typing.machine(x, "g0,g1,g2,g3"), 0);
            due("then one", Typing.machine(x, "g4"), 1);
            due("the fourth of the first", x.part(0, 3, 1), 3);
            due("the second of the second", x.part(1, 1, 1), UNKNOWN);
            due("the first of the second", x.part(1, 0, 1), 4);
        });
        EDGES.test(5, "numbers of one digit and of two, with a PART behind them", x -> {
            Typing.machine(x, "r0o12p1,t1o11p10,w2o1p1,w3o10p0");
            int[][] told = {{2, 0, 12, 1}, {3, 1, 11, 10}, {4, 2, 1, 1}, {4, 3, 10, 0}};
            for (int part = 0; part < 4; part++) {
                for (int what = 0; what <= 3; what++) {
                    due("part " + part + ", what " + what, x.part(0, part, what), told[part][what]);
                }
            }
        });
        EDGES.test(5, "the page is empty then", x -> {
            Typing.type(x, "g5");
            x.machine();
            due("letters", x.count(5), 0);
            due("at once again", x.machine(), STATE);
            due("blank", x.blank(), 0);
        });
    }

    private static void machineFull() {
        EDGES.test(5, "its number: 0 to 5", x -> {
            for (int i = 0; i < 6; i++) {
                due("machine " + i, Typing.machine(x, "g" + i), i);
                due("machines", x.count(1), i + 1);
            }
            for (int i = 0; i < 6; i++) {
                due("SIDE of machine " + i, x.part(i, 0, 1), i);
            }
        });
        EDGES.test(5, "FULL: a seventh", x -> {
            for (int i = 0; i < 6; i++) {
                Typing.machine(x, "g" + i);
            }
            Typing.type(x, "r7o19p18");
            EDGES.refused(x, "the seventh", FULL, x::machine);
            EDGES.refused(x, "the seventh again", FULL, x::machine);
            due("the page stays", x.count(5), 8);
            due("six", x.count(1), 6);
            due("the first stays", x.part(0, 0, 1), 0);
            due("the sixth stays", x.part(5, 0, 1), 5);
        });
        EDGES.test(5, "STATE ahead of FULL", x -> {
            for (int i = 0; i < 6; i++) {
                Typing.machine(x, "g" + i);
            }
            EDGES.refused(x, "an empty page", STATE, x::machine);
            Typing.type(x, "g8");
            EDGES.refused(x, "a page that is none", STATE, x::machine);
            x.blank();
            Typing.type(x, "g0,");
            EDGES.refused(x, "a page that is unfinished", STATE, x::machine);
        });
    }

    private static void partTold() {
        EDGES.test(6, "KIND: 1 to 4", x -> {
            Typing.machine(x, FOUR_KINDS);
            for (int part = 0; part < 4; part++) {
                due("KIND of part " + part, x.part(0, part, 0), part + 1);
            }
        });
        EDGES.test(6, "SIDE: 0 to 7", x -> {
            Typing.machine(x, "g0,r1o2p0,t2o2p0,w3o1p0");
            Typing.machine(x, "w4o1p0,t5o2p0,r6o2p0,g7");
            for (int side = 0; side <= 7; side++) {
                due("SIDE " + side, x.part(side / 4, side % 4, 1), side);
            }
        });
        EDGES.test(6, "ROUND and PHASE: the least and the greatest", x -> {
            Typing.machine(x, "r0o2p0,t0o2p1,r0o19p0,t0o19p18");
            int[][] told = {{2, 0}, {2, 1}, {19, 0}, {19, 18}};
            for (int part = 0; part < 4; part++) {
                due("ROUND of part " + part, x.part(0, part, 2), told[part][0]);
                due("PHASE of part " + part, x.part(0, part, 3), told[part][1]);
            }
        });
        EDGES.test(6, "ROUND and PHASE: of one digit and of two", x -> {
            Typing.machine(x, "r0o9p8,t0o10p9,r0o11p10,t0o12p1");
            int[][] told = {{9, 8}, {10, 9}, {11, 10}, {12, 1}};
            for (int part = 0; part < 4; part++) {
                due("ROUND of part " + part, x.part(0, part, 2), told[part][0]);
                due("PHASE of part " + part, x.part(0, part, 3), told[part][1]);
            }
        });
        EDGES.test(6, "FIRST and THICK: the least and the greatest", x -> {
            Typing.machine(x, "w0o1p0,w0o1p9,w0o19p0,w0o19p9");
            int[][] told = {{1, 0}, {1, 9}, {19, 0}, {19, 9}};
            for (int part = 0; part < 4; part++) {
                due("FIRST of part " + part, x.part(0, part, 2), told[part][0]);
                due("THICK of part " + part, x.part(0, part, 3), told[part][1]);
            }
        });
        EDGES.test(6, "NONE of a GATE", x -> {
            Typing.machine(x, "r1o3p1,g6");
            due("ROUND, FIRST", x.part(0, 1, 2), NONE);
            due("PHASE, THICK", x.part(0, 1, 3), NONE);
        });
    }

    private static void partRefused() {
        EDGES.test(6, "UNKNOWN: machine, when there is none yet", x -> {
            for (int machine : Edges.around(0)) {
                EDGES.refused(x, "machine " + machine, UNKNOWN, () -> x.part(machine, 0, 0));
            }
        });
        EDGES.test(6, "UNKNOWN: machine, when there is one", x -> {
            Typing.machine(x, "g3");
            due("machine 0", x.part(0, 0, 1), 3);
            for (int machine : Edges.around(1)) {
                EDGES.refused(x, "machine " + machine, UNKNOWN, () -> x.part(machine, 0, 0));
            }
        });
        EDGES.test(6, "UNKNOWN: machine, when there are six", x -> {
            for (int i = 0; i < 6; i++) {
                Typing.machine(x, "g" + i);
            }
            due("machine 5", x.part(5, 0, 1), 5);
            for (int machine : Edges.around(6)) {
                EDGES.refused(x, "machine " + machine, UNKNOWN, () -> x.part(machine, 0, 0));
            }
        });
        EDGES.test(6, "UNKNOWN: part, of one to four", x -> {
            String text = "g0";
            for (int parts = 1; parts <= 4; parts++) {
                int machine = Typing.machine(x, text);
                due("the last part", x.part(machine, parts - 1, 0), 1);
                for (int part : new int[] {Edges.LOW, -1, parts, parts + 1, 32, Edges.HIGH}) {
                    EDGES.refused(x, "part " + part + " of " + parts, UNKNOWN, () -> x.part(machine, part, 0));
                }
                text = text + ",g0";
            }
        });
        EDGES.test(6, "OUTSIDE: what is 0 to 3", x -> {
            Typing.machine(x, "r7o9p5");
            due("what 0", x.part(0, 0, 0), 2);
            due("what 3", x.part(0, 0, 3), 5);
            for (int what : Edges.around(4)) {
                EDGES.refused(x, "what " + what, OUTSIDE, () -> x.part(0, 0, what));
            }
        });
        EDGES.test(6, "UNKNOWN ahead of OUTSIDE", x -> {
            Typing.machine(x, "g0");
            EDGES.refused(x, "machine and what", UNKNOWN, () -> x.part(1, 0, 4));
            EDGES.refused(x, "part and what", UNKNOWN, () -> x.part(0, 1, -1));
            EDGES.refused(x, "all three", UNKNOWN, () -> x.part(-1, -1, -1));
        });
    }

    private static void asKinds() {
        boolean[][] is = {
            {true, true, false, false, false},
            {true, false, true, false, false},
            {true, false, true, true, false},
            {true, false, false, false, true},
        };
        String[] names = {"a GATE", "a ROLLER", "a TOOTHED", "a WOUND"};
        for (int part = 0; part < 4; part++) {
            int own = part;
            EDGES.test(7, "its own number, or NONE: " + names[part], x -> {
                Typing.machine(x, FOUR_KINDS);
                for (int kind = 0; kind <= 4; kind++) {
                    due("as " + kind, x.as(0, own, kind), is[own][kind] ? own : NONE);
                }
            });
        }
        EDGES.test(7, "all are PARTS", x -> {
            Typing.machine(x, FOUR_KINDS);
            for (int part = 0; part < 4; part++) {
                due("part " + part, x.as(0, part, 0), part);
            }
        });
        EDGES.test(7, "a TOOTHED is a ROLLER, too; a ROLLER is no TOOTHED", x -> {
            Typing.machine(x, "g0,t0o2p0,r0o2p0");
            due("a TOOTHED as a ROLLER", x.as(0, 1, 2), 1);
            due("a TOOTHED as a TOOTHED", x.as(0, 1, 3), 1);
            due("a ROLLER as a ROLLER", x.as(0, 2, 2), 2);
            due("a ROLLER as a TOOTHED", x.as(0, 2, 3), NONE);
        });
        EDGES.test(7, "its own number is that within its MACHINE", x -> {
            Typing.machine(x, "g0,g1,g2");
            Typing.machine(x, "g3,g4");
            due("the second of the second", x.as(1, 1, 1), 1);
            due("the first of the second", x.as(1, 0, 1), 0);
        });
    }

    private static void asRefused() {
        EDGES.test(7, "UNKNOWN: machine", x -> {
            EDGES.refused(x, "machine 0 of none", UNKNOWN, () -> x.as(0, 0, 0));
            Typing.machine(x, "g0");
            Typing.machine(x, "g0");
            due("machine 1", x.as(1, 0, 0), 0);
            for (int machine : Edges.around(2)) {
                EDGES.refused(x, "machine " + machine, UNKNOWN, () -> x.as(machine, 0, 0));
            }
        });
        EDGES.test(7, "UNKNOWN: part", x -> {
            Typing.machine(x, "g0,g1,g2,g3");
            due("part 3", x.as(0, 3, 0), 3);
            for (int part : Edges.around(4)) {
                EDGES.refused(x, "part " + part, UNKNOWN, () -> x.as(0, part, 0));
            }
            Typing.machine(x, "g0,g1");
            due("part 1 of two", x.as(1, 1, 0), 1);
            EDGES.refused(x, "part 2 of two", UNKNOWN, () -> x.as(1, 2, 0));
        });
        EDGES.test(7, "OUTSIDE: kinds are 0 to 4", x -> {
            Typing.machine(x, "g0,w0o1p0");
            due("kind 0", x.as(0, 1, 0), 1);
            due("kind 4", x.as(0, 1, 4), 1);
            for (int kind : Edges.around(5)) {
                EDGES.refused(x, "kind " + kind, OUTSIDE, () -> x.as(0, 1, kind));
            }
        });
        EDGES.test(7, "UNKNOWN ahead of OUTSIDE", x -> {
            Typing.machine(x, "g0");
            EDGES.refused(x, "machine and kind", UNKNOWN, () -> x.as(1, 0, 5));
            EDGES.refused(x, "part and kind", UNKNOWN, () -> x.as(0, 1, -1));
        });
    }
}
