import java.util.Random;

/** The class against the plain model, by runs of calls that always come the same. */
public final class ModelTests {
    private static final int RUNS = 300;
    /** What an object answers behind its 512th call is free; a step takes a dozen calls at most. */
    private static final int CALLS = 512 - 13;
    private static final int[] WILD = {Integer.MIN_VALUE, Integer.MAX_VALUE, -2, -1, 0, 1, 2, 5, 6, 7, 8, 9, 19, 20, 48,
        49, 64, 99, 100};
    private static final Checks CHECKS = new Checks("ModelTests");

    private final Random dice;
    private final LinesDownFilm film = new LinesDownFilm();
    private final PlainModel model = new PlainModel();
    private final int run;
    private String call = "";
    private int calls = 0;

    private ModelTests(int run) {
        this.run = run;
        this.dice = new Random(run);
    }

    public static void main(String[] args) {
        for (int run = 0; run < RUNS; run++) {
            new ModelTests(run).go();
        }
        faults();
        CHECKS.close();
    }

    private void go() {
        for (int i = 0; calls < CALLS; i++) {
            step();
            if (i % 10 == 9) {
                same("digest", film.digest(), model.digest());
            }
        }
    }

    private void same(String what, long got, long want) {
        calls++;
        CHECKS.due("run " + run + ": " + what, got, want);
    }

    /** Mostly a number from low to high, now and then any. */
    private int some(int low, int high) {
        int x = dice.nextInt(25) == 0 ? WILD[dice.nextInt(WILD.length)] : low + dice.nextInt(Math.max(1, high - low + 1));
        call = call + " " + x;
        return x;
    }

    private int aPrint() {
        return some(0, model.count(0) - 1);
    }

    private int aMachine() {
        return some(0, model.count(1) - 1);
    }

    private int aPicture(int print) {
        return some(0, Math.max(0, model.length(print) - 1));
    }

    private int aPlace(int print) {
        return some(1, Math.max(1, model.length(print) - 1));
    }

    private boolean aFlag() {
        boolean flag = dice.nextBoolean();
        call = call + " " + flag;
        return flag;
    }

    private void step() {
        call = "";
        int dealt = dice.nextInt(100);
        if (dealt < 12) {
            type();
        } else if (dealt < 50) {
            change(dealt);
        } else if (dealt < 80) {
            ask(dealt);
        } else {
            compare(dealt);
        }
    }

    private void type() {
        switch (dice.nextInt(8)) {
            case 0:
                same("blank", film.blank(), model.blank());
                break;
            case 1:
                same("fault", film.fault(), model.fault());
                break;
            case 2:
                letters(dice.nextLong() & 0x7f7f7f7f7f7f7f7fL >>> 8 * dice.nextInt(8));
                break;
            case 3:
                letters(Typing.word("grtwop,0".charAt(dice.nextInt(8)) + ""));
                break;
            default:
                if (dice.nextInt(3) > 0) {
                    same("blank", film.blank(), model.blank());
                }
                machine();
        }
    }

    private void letters(long w) {
        same("letters " + w, film.letters(w), model.letters(w));
    }

    private void machine() {
        String text = aText(dice);
        for (int i = 0; i < text.length(); i += 8) {
            letters(Typing.word(text.substring(i, Math.min(i + 8, text.length()))));
        }
        same("fault of " + text, film.fault(), model.fault());
        same("machine " + text, film.machine(), model.machine());
    }

    private static String aText(Random dice) {
        StringBuilder text = new StringBuilder();
        int parts = 1 + dice.nextInt(dice.nextInt(10) == 0 ? 5 : 3);
        for (int i = 0; i < parts; i++) {
            char kind = "grtw".charAt(dice.nextInt(4));
            text.append(i == 0 ? "" : ",").append(kind).append(dice.nextInt(30) == 0 ? 8 : dice.nextInt(8));
            if (kind != 'g') {
                int turn = dice.nextInt(30) == 0 ? 20 : 1 + dice.nextInt(dice.nextBoolean() ? 6 : 19);
                int most = kind == 'w' ? 10 : turn;
                text.append('o').append(turn).append('p').append(dice.nextInt(most) + dice.nextInt(30) / 29);
            }
        }
        if (dice.nextInt(15) == 0) {
            text.setCharAt(dice.nextInt(text.length()), "grtwop,019".charAt(dice.nextInt(10)));
        }
        return text.toString();
    }

    private void change(int dealt) {
        int print = aPrint();
        if (dealt < 15) {
            int n = some(1, 48);
            same("print" + call, film.print(n), model.print(n));
        } else if (dealt < 25) {
            int machine = aMachine();
            boolean back = aFlag();
            same("run" + call, film.run(print, machine, back), model.run(print, machine, back));
        } else if (dealt < 28) {
            int a = aPicture(print);
            int b = a == Integer.MAX_VALUE ? a : a + some(0, 4);
            same("mend" + call, film.mend(print, a, b), model.mend(print, a, b));
        } else if (dealt < 30) {
            same("copy" + call, film.copy(print), model.copy(print));
        } else if (dealt < 40) {
            int picture = aPicture(print);
            int side = some(0, 7);
            int sort = some(0, 1);
            boolean is = aFlag();
            same("mark" + call, film.mark(print, picture, side, sort, is), model.mark(print, picture, side, sort, is));
        } else if (dealt < 44) {
            int side = some(0, 7);
            int round = some(2, 19);
            same("trace" + call, film.trace(side, round), model.trace(side, round));
        } else if (dealt < 46) {
            same("clear", film.clear(), model.clear());
        } else if (dealt < 48) {
            same("image", film.image(), model.image());
        } else {
            same("restore", film.restore(), model.restore());
        }
    }

    private void ask(int dealt) {
        int print = aPrint();
        int side = some(0, 7);
        int sort = some(0, 2);
        if (dealt < 52) {
            same("length" + call, film.length(print), model.length(print));
        } else if (dealt < 55) {
            int picture = aPicture(print);
            int what = some(0, 2);
            same("picture" + call, film.picture(print, picture, what), model.picture(print, picture, what));
        } else if (dealt < 63) {
            lets(print, side, sort);
        } else if (dealt < 66) {
            same("rounds" + call, film.rounds(print, side, sort), model.rounds(print, side, sort));
        } else if (dealt < 68) {
            same("whose" + call, film.whose(print), model.whose(print));
        } else if (dealt < 72) {
            boolean back = aFlag();
            int what = some(0, 2);
            same("wound" + call, film.wound(print, side, sort, back, what), model.wound(print, side, sort, back, what));
        } else if (dealt < 76) {
            int place = aPlace(print);
            same("gone" + call, film.gone(print, place), model.gone(print, place));
        } else {
            int round = some(2, 19);
            int place = aPlace(print);
            same("earlier" + call, film.earlier(print, side, round, place), model.earlier(print, side, round, place));
        }
    }

    private void lets(int print, int side, int sort) {
        int round = some(2, 19);
        int phase = some(0, round - 1);
        int part = some(0, 1);
        same("lets" + call, film.lets(print, side, sort, round, phase), model.lets(print, side, sort, round, phase));
        same("chance" + call, film.chance(print, side, sort, round, phase, part),
            model.chance(print, side, sort, round, phase, part));
    }

    private void compare(int dealt) {
        int print = aPrint();
        int cost = some(0, dice.nextBoolean() ? 4 : 99);
        if (dealt < 85) {
            int other = dice.nextInt(4) == 0 ? -1 : aPrint();
            same("lacks" + call, film.lacks(print, other, cost), model.lacks(print, other, cost));
        } else if (dealt < 88) {
            int what = some(0, model.count(0));
            same("tree" + call, film.tree(cost, what), model.tree(cost, what));
        } else if (dealt < 93) {
            int n = some(1, 48);
            int what = dice.nextInt(3) == 0 ? some(0, 1) : some(10, 9 + Math.min(48, Math.max(1, n)));
            same("whole" + call, film.whole(n, cost, what), model.whole(n, cost, what));
        } else if (dealt < 95) {
            same("left" + call, film.left(print), model.left(print));
        } else if (dealt < 97) {
            int machine = aMachine();
            int part = some(0, 3);
            int what = some(0, 4);
            same("part" + call, film.part(machine, part, what), model.part(machine, part, what));
            same("as" + call, film.as(machine, part, what), model.as(machine, part, what));
        } else {
            int what = some(0, 6);
            same("count" + call, film.count(what), model.count(what));
        }
    }

    /** Many more pages than the runs above can have. */
    private static void faults() {
        Random dice = new Random(463);
        for (int i = 0; i < 20000; i++) {
            LinesDownFilm film = new LinesDownFilm();
            PlainModel model = new PlainModel();
            String text = aText(dice);
            for (int k = 0; k < text.length(); k += 8) {
                long w = Typing.word(text.substring(k, Math.min(k + 8, text.length())));
                CHECKS.due("letters of " + text, film.letters(w), model.letters(w));
            }
            CHECKS.due("fault of " + text, film.fault(), model.fault());
            CHECKS.due("machine of " + text, film.machine(), model.machine());
            CHECKS.due("digest of " + text, film.digest(), model.digest());
        }
    }
}
