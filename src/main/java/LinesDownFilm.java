/**
 * Lines down a film: prints, the machines that mark them, and what the marks tell.
 * The promises that this class keeps are told in DOC.md; README.md says where.
 */
public final class LinesDownFilm {
    public static final int NONE = -1, UNKNOWN = -101, OUTSIDE = -102, STATE = -103, FULL = -104;

    private static final int MOST_PRINTS = 6;
    private static final int MOST_MACHINES = 6;
    private static final int MOST_PARTS = 4;
    private static final int MOST_PICTURES = 48;
    private static final int MOST_TRACES = 4;
    private static final int MOST_LETTERS = 40;
    private static final int MOST_TREES = 12;
    private static final int MOST_COST = 99;
    private static final int MOST_GONE = 99;
    private static final int LAST_SIDE = 7;
    private static final int LEAST_ROUND = 2;
    private static final int MOST_ROUND = 19;
    private static final int MOST_FIRST = 19;
    private static final int MOST_THICK = 9;
    private static final int BYTES = 8;
    private static final int LAST_LETTER = 126;
    private static final int LACK_OF_FRAME = 8;
    private static final int FIRST_FRAME_ASKED = 10;

    private static final int BLACK = 0;
    private static final int WHITE = 1;
    private static final int EITHER = 2;

    private static final int ANY = 0;
    private static final int GATE = 1;
    private static final int ROLLER = 2;
    private static final int TOOTHED = 3;
    private static final int WOUND = 4;

    private final Page page = new Page();
    private final Machine[] machines = new Machine[MOST_MACHINES];
    private int machineCount = 0;
    private final Shelf shelf = new Shelf();
    private final Shelf keptShelf = new Shelf();
    private boolean isKept = false;
    private final Descent descent = new Descent();
    private final Joining joining = new Joining();
    private int treesDone = 0;

    public LinesDownFilm() {
    }

    // ---- machines

    public int letters(long w) {
        int coming = lettersIn(w);
        if (coming == NONE) {
            return OUTSIDE;
        }
        if (page.size + coming > MOST_LETTERS) {
            return FULL;
        }
        for (int i = 0; i < coming; i++) {
            page.append((char) byteOf(w, i));
        }
        return page.size;
    }

    public int blank() {
        int had = page.size;
        page.size = 0;
        return had;
    }

    public int fault() {
        return page.fitting();
    }

    public int machine() {
        if (!page.isMachine()) {
            return STATE;
        }
        if (machineCount >= MOST_MACHINES) {
            return FULL;
        }
        machines[machineCount] = page.machineRead();
        machineCount++;
        page.size = 0;
        return machineCount - 1;
    }

    public int part(int machine, int part, int what) {
        Part asked = partAt(machine, part);
        if (asked == null) {
            return UNKNOWN;
        }
        if (!isWithin(what, 0, 3)) {
            return OUTSIDE;
        }
        return asked.tell(what);
    }

    public int as(int machine, int part, int kind) {
        Part asked = partAt(machine, part);
        if (asked == null) {
            return UNKNOWN;
        }
        if (!isWithin(kind, ANY, WOUND)) {
            return OUTSIDE;
        }
        return isOfKind(asked, kind) ? part : NONE;
    }

    // ---- prints

    public int print(int n) {
        if (!isWithin(n, 1, MOST_PICTURES)) {
            return OUTSIDE;
        }
        Print fresh = shelf.next();
        if (fresh == null) {
            return FULL;
        }
        fresh.begin(n);
        return shelf.printCount - 1;
    }

    public int run(int print, int machine, boolean back) {
        Print target = shelf.printAt(print);
        Machine through = machineAt(machine);
        if (target == null || through == null) {
            return UNKNOWN;
        }
        int fresh = 0;
        for (int i = 0; i < through.parts.length; i++) {
            fresh += target.leave(through.parts[i], back);
        }
        return fresh;
    }

    public int mend(int print, int a, int b) {
        Print target = shelf.printAt(print);
        if (target == null) {
            return UNKNOWN;
        }
        if (a < 0 || b >= target.size || a > b || b - a + 1 == target.size) {
            return OUTSIDE;
        }
        target.takeOut(a, b);
        return target.size;
    }

    public int copy(int print) {
        Print old = shelf.printAt(print);
        if (old == null) {
            return UNKNOWN;
        }
        Print fresh = shelf.next();
        if (fresh == null) {
            return FULL;
        }
        fresh.takeFrom(old);
        fresh.whiten();
        return shelf.printCount - 1;
    }

    public int mark(int print, int picture, int side, int sort, boolean is) {
        Print target = shelf.printAt(print);
        if (target == null || !isWithin(picture, 0, target.size - 1)) {
            return UNKNOWN;
        }
        if (!isSide(side) || !isWithin(sort, BLACK, WHITE)) {
            return OUTSIDE;
        }
        return target.put(picture, side, sort, is) ? 1 : 0;
    }

    public int length(int print) {
        Print asked = shelf.printAt(print);
        return asked == null ? UNKNOWN : asked.size;
    }

    public int picture(int print, int picture, int what) {
        Print asked = shelf.printAt(print);
        if (asked == null || !isWithin(picture, 0, asked.size - 1)) {
            return UNKNOWN;
        }
        if (!isWithin(what, 0, 2)) {
            return OUTSIDE;
        }
        return asked.tell(picture, what);
    }

    // ---- what marks tell

    public int lets(int print, int side, int sort, int round, int phase) {
        Print asked = shelf.printAt(print);
        if (asked == null) {
            return UNKNOWN;
        }
        if (!isSide(side) || !isSort(sort) || !isRound(round) || !isWithin(phase, 0, round - 1)) {
            return OUTSIDE;
        }
        return mayBe(asked.marked(side, sort), everyOf(asked.size, phase, round), 2) ? 1 : 0;
    }

    public int rounds(int print, int side, int sort) {
        Print asked = shelf.printAt(print);
        if (asked == null) {
            return UNKNOWN;
        }
        if (!isSide(side) || !isSort(sort)) {
            return OUTSIDE;
        }
        return roundsOf(asked, side, sort);
    }

    public long chance(int print, int side, int sort, int round, int phase, int part) {
        Print asked = shelf.printAt(print);
        if (asked == null) {
            return UNKNOWN;
        }
        if (!isSide(side) || !isSort(sort) || !isRound(round) || !isWithin(phase, 0, round - 1)
                || !isWithin(part, 0, 1)) {
            return OUTSIDE;
        }
        int dealt = Long.bitCount(asked.marked(side, sort));
        int needed = Long.bitCount(everyOf(asked.size, phase, round));
        return chanceOf(asked.size, dealt, needed, part);
    }

    public int whose(int print) {
        Print asked = shelf.printAt(print);
        return asked == null ? UNKNOWN : ownersOf(asked);
    }

    public int wound(int print, int side, int sort, boolean back, int what) {
        Print asked = shelf.printAt(print);
        if (asked == null) {
            return UNKNOWN;
        }
        if (!isSide(side) || !isSort(sort) || !isWithin(what, 0, 2)) {
            return OUTSIDE;
        }
        long marked = asked.marked(side, sort);
        // a print wound back is one wound forward, read from its other end
        return windings(back ? turned(marked, asked.size) : marked, asked.size, what);
    }

    public int trace(int side, int round) {
        if (!isSide(side) || !isRound(round)) {
            return OUTSIDE;
        }
        return shelf.addTrace(side, round) ? shelf.traceCount : FULL;
    }

    public int clear() {
        int had = shelf.traceCount;
        shelf.traceCount = 0;
        return had;
    }

    public int gone(int print, int place) {
        Print asked = shelf.printAt(print);
        if (asked == null) {
            return UNKNOWN;
        }
        if (!isWithin(place, 1, asked.size - 1)) {
            return OUTSIDE;
        }
        for (int g = 0; g <= MOST_GONE; g++) {
            if (shelf.tracesAllow(asked, place, g)) {
                return g;
            }
        }
        return NONE;
    }

    public int earlier(int print, int side, int round, int place) {
        Print asked = shelf.printAt(print);
        if (asked == null) {
            return UNKNOWN;
        }
        if (!isSide(side) || !isRound(round) || !isWithin(place, 1, asked.size - 1)) {
            return OUTSIDE;
        }
        int last = asked.lastAhead(place, side);
        int first = asked.firstFrom(place, side);
        if (last == NONE || first == NONE) {
            return NONE;
        }
        return last % round == first % round ? 0 : 1;
    }

    // ---- prints from prints

    public int lacks(int q, int p, int cost) {
        Print child = shelf.printAt(q);
        Print parent = shelf.printAt(p);
        if (child == null || p == q || (parent == null && p != NONE)) {
            return UNKNOWN;
        }
        if (!isCost(cost)) {
            return OUTSIDE;
        }
        return parent == null ? child.whiteMarks() + cost : lackingOf(child, parent);
    }

    public int tree(int cost, int what) {
        if (!isCost(cost) || !isWithin(what, 0, shelf.printCount)) {
            return OUTSIDE;
        }
        if (shelf.printCount == 0 || treesDone >= MOST_TREES) {
            return STATE;
        }
        treesDone++;
        descent.grow(shelf, cost);
        return what == 0 ? descent.least : descent.bestFrom(what - 1);
    }

    public int whole(int n, int cost, int what) {
        if (!isWithin(n, 1, MOST_PICTURES) || !isCost(cost)
                || (!isWithin(what, 0, 1) && !isWithin(what, FIRST_FRAME_ASKED, FIRST_FRAME_ASKED - 1 + n))) {
            return OUTSIDE;
        }
        if (shelf.printCount == 0) {
            return STATE;
        }
        joining.join(shelf, n, cost);
        if (what == 0) {
            return joining.together;
        }
        return what == 1 ? joining.leftOut : joining.chosenFor(what - FIRST_FRAME_ASKED);
    }

    public int left(int print) {
        return shelf.printAt(print) == null ? UNKNOWN : shelf.remaining(print);
    }

    // ---- what is told

    public int image() {
        keptShelf.takeFrom(shelf);
        isKept = true;
        return shelf.printCount;
    }

    public int restore() {
        if (!isKept) {
            return STATE;
        }
        shelf.takeFrom(keptShelf);
        return shelf.printCount;
    }

    public int count(int what) {
        switch (what) {
            case 0: return shelf.printCount;
            case 1: return machineCount;
            case 2: return shelf.pictures();
            case 3: return shelf.marks();
            case 4: return shelf.traceCount;
            case 5: return page.size;
            case 6: return treesDone;
            default: return OUTSIDE;
        }
    }

    public long digest() {
        long h = digestMachines(463L);
        for (int i = 0; i < shelf.printCount; i++) {
            h = digestPrint(h, i);
        }
        for (int i = 0; i < shelf.traceCount; i++) {
            h = mixed(mixed(h, shelf.traceSides[i]), shelf.traceRounds[i]);
        }
        for (int i = 0; i < page.size; i++) {
            h = mixed(h, page.text[i]);
        }
        for (int what = 0; what <= 6; what++) {
            h = mixed(h, count(what));
        }
        return h;
    }

    // ---- what the calls above are made of

    private long digestMachines(long start) {
        long h = start;
        for (int m = 0; m < machineCount; m++) {
            Machine told = machineAt(m);
            for (int i = 0; told != null && i < told.parts.length; i++) {
                for (int what = 0; what <= 3; what++) {
                    h = mixed(h, told.parts[i].tell(what));
                }
            }
        }
        return h;
    }

    private long digestPrint(long start, int print) {
        Print told = shelf.printAt(print);
        if (told == null) {
            return start;
        }
        long h = mixed(start, told.size);
        for (int i = 0; i < told.size; i++) {
            for (int what = 0; what <= 2; what++) {
                h = mixed(h, told.tell(i, what));
            }
        }
        h = mixed(h, roundsOf(told, 0, EITHER));
        h = mixed(h, ownersOf(told));
        return mixed(h, shelf.remaining(print));
    }

    private static long mixed(long h, long number) {
        return 31L * h + number;
    }

    private Machine machineAt(int number) {
        return isWithin(number, 0, machineCount - 1) ? machines[number] : null;
    }

    private Part partAt(int machine, int number) {
        Machine holder = machineAt(machine);
        if (holder == null || !isWithin(number, 0, holder.parts.length - 1)) {
            return null;
        }
        return holder.parts[number];
    }

    private int ownersOf(Print asked) {
        int owners = 0;
        for (int m = 0; m < machineCount; m++) {
            Machine owner = machineAt(m);
            if (owner != null && owner.mayHaveMarked(asked)) {
                owners |= 1 << m;
            }
        }
        return owners;
    }

    private static boolean isWithin(int x, int low, int high) {
        return x >= low && x <= high;
    }

    private static boolean isSide(int side) {
        return isWithin(side, 0, LAST_SIDE);
    }

    private static boolean isSort(int sort) {
        return isWithin(sort, BLACK, EITHER);
    }

    private static boolean isRound(int round) {
        return isWithin(round, LEAST_ROUND, MOST_ROUND);
    }

    private static boolean isCost(int cost) {
        return isWithin(cost, 0, MOST_COST);
    }

    private static int byteOf(long w, int i) {
        return (int) (w >>> (8 * i)) & 255;
    }

    /** How many letters w holds; NONE if it is not such as letters() takes. */
    private static int lettersIn(long w) {
        int coming = 0;
        for (int i = 0; i < BYTES; i++) {
            int letter = byteOf(w, i);
            if (letter > LAST_LETTER || (letter != 0 && coming < i)) {
                return NONE;
            }
            if (letter != 0) {
                coming++;
            }
        }
        return coming;
    }

    private static boolean isOfKind(Part asked, int kind) {
        switch (kind) {
            case ANY: return true;
            case GATE: return asked instanceof Gate;
            case ROLLER: return asked instanceof Roller;
            case TOOTHED: return asked instanceof Toothed;
            case WOUND: return asked instanceof Wound;
            default: return false;
        }
    }

    /** Of n pictures, as bits: start, and each one that is some steps behind it. */
    private static long everyOf(int n, int start, int step) {
        long told = 0L;
        if (start < 0 || step < 1) {
            return told;
        }
        for (int i = start; i < n; i += step) {
            told |= 1L << i;
        }
        return told;
    }

    /** Of n pictures, as bits: those that a spool touches whose ways grow. */
    private static long spooled(int n, int first, int thick) {
        long told = 0L;
        int way = first;
        int at = first;
        for (int turn = 0; turn < MOST_PICTURES && at < n; turn++) {
            told |= 1L << at;
            way += thick;
            at += way;
        }
        return told;
    }

    /** The bits of n pictures, told from the other end. */
    private static long turned(long pictures, int n) {
        long told = 0L;
        for (int i = 0; i < n; i++) {
            if (isIn(pictures, i)) {
                told |= 1L << (n - 1 - i);
            }
        }
        return told;
    }

    private static boolean isIn(long bits, int i) {
        return (bits >>> i & 1L) != 0L;
    }

    private static boolean isAmong(long told, long marked) {
        return (told & ~marked) == 0L;
    }

    private static boolean mayBe(long marked, long told, int atLeast) {
        return Long.bitCount(told) >= atLeast && isAmong(told, marked);
    }

    private static int roundsOf(Print asked, int side, int sort) {
        long marked = asked.marked(side, sort);
        int told = 0;
        for (int round = LEAST_ROUND; round <= MOST_ROUND; round++) {
            boolean may = false;
            for (int phase = 0; phase < round && !may; phase++) {
                may = mayBe(marked, everyOf(asked.size, phase, round), 2);
            }
            if (may) {
                told |= 1 << round;
            }
        }
        return told;
    }

    private static int windings(long marked, int n, int what) {
        int pairs = 0;
        for (int first = 1; first <= MOST_FIRST; first++) {
            for (int thick = 0; thick <= MOST_THICK; thick++) {
                if (mayBe(marked, spooled(n, first, thick), 3)) {
                    if (what != 0) {
                        return what == 1 ? first : thick;
                    }
                    pairs++;
                }
            }
        }
        return what == 0 ? pairs : NONE;
    }

    /** How likely the needed ones of n pictures are all among the dealt ones. */
    private static long chanceOf(int n, int dealt, int needed, int part) {
        if (needed > dealt) {
            return part;
        }
        long above = 1L;
        long below = 1L;
        for (int i = 0; i < needed; i++) {
            above *= dealt - i;
            below *= n - i;
            // made small at each step, so that 48 pictures stay within a long
            long divisor = commonDivisor(above, below);
            if (divisor > 1L) {
                above /= divisor;
                below /= divisor;
            }
        }
        return part == 0 ? above : below;
    }

    private static long commonDivisor(long a, long b) {
        long large = a;
        long small = b;
        // Euclid's steps on longs are fewer than 100
        for (int step = 0; step < 100 && small != 0L; step++) {
            long rest = large % small;
            large = small;
            small = rest;
        }
        return large;
    }

    /** What child lacks in parent, if it was copied from it. */
    private static int lackingOf(Print child, Print parent) {
        int lacking = 0;
        for (int i = 0; i < child.size; i++) {
            int there = parent.placeOf(child.tell(i, 0));
            int covered = 0;
            if (there == NONE) {
                lacking += LACK_OF_FRAME;
            } else {
                covered = parent.sidesMarked(there, EITHER);
            }
            lacking += Integer.bitCount(child.sidesMarked(i, WHITE) & ~covered);
        }
        return lacking;
    }

    /** A part of a machine; its kinds are classes, so that a cast can fail. */
    private abstract static class Part {
        final int side;

        Part(int side) {
            this.side = side;
        }

        abstract int kind();

        abstract int turn();

        abstract int shift();

        /** The pictures of n, as bits, that it marks forward. */
        abstract long touched(int n);

        final int tell(int what) {
            switch (what) {
                case 0: return kind();
                case 1: return side;
                case 2: return turn();
                default: return shift();
            }
        }
    }

    private static final class Gate extends Part {
        Gate(int side) {
            super(side);
        }

        int kind() {
            return GATE;
        }

        int turn() {
            return NONE;
        }

        int shift() {
            return NONE;
        }

        long touched(int n) {
            return everyOf(n, 0, 1);
        }
    }

    private static class Roller extends Part {
        final int round;
        final int phase;

        Roller(int side, int round, int phase) {
            super(side);
            this.round = round;
            this.phase = phase;
        }

        int kind() {
            return ROLLER;
        }

        final int turn() {
            return round;
        }

        final int shift() {
            return phase;
        }

        long touched(int n) {
            return everyOf(n, phase, round);
        }
    }

    private static final class Toothed extends Roller {
        Toothed(int side, int round, int phase) {
            super(side, round, phase);
        }

        int kind() {
            return TOOTHED;
        }

        long touched(int n) {
            return everyOf(n, phase, 2 * round);
        }
    }

    private static final class Wound extends Part {
        private final int first;
        private final int thick;

        Wound(int side, int first, int thick) {
            super(side);
            this.first = first;
            this.thick = thick;
        }

        int kind() {
            return WOUND;
        }

        int turn() {
            return first;
        }

        int shift() {
            return thick;
        }

        long touched(int n) {
            return spooled(n, first, thick);
        }
    }

    private static final class Machine {
        final Part[] parts;

        Machine(Part[] parts) {
            this.parts = parts;
        }

        boolean mayHaveMarked(Print asked) {
            for (int i = 0; i < parts.length; i++) {
                if (!isAmong(parts[i].touched(asked.size), asked.marked(parts[i].side, BLACK))) {
                    return false;
                }
            }
            return true;
        }
    }

    /** The page, and its reading as a machine, letter by letter. */
    private static final class Page {
        private static final int AT_KIND = 0;
        private static final int AT_SIDE = 1;
        private static final int AT_O = 2;
        private static final int AT_TURN = 3;
        private static final int IN_TURN = 4;
        private static final int AT_P = 5;
        private static final int AT_SHIFT = 6;
        private static final int IN_SHIFT = 7;
        private static final int AT_END = 8;

        final char[] text = new char[MOST_LETTERS];
        int size = 0;

        private final int[] kinds = new int[MOST_PARTS];
        private final int[] sides = new int[MOST_PARTS];
        private final int[] turns = new int[MOST_PARTS];
        private final int[] shifts = new int[MOST_PARTS];
        private int current = 0;
        private int expected = AT_KIND;

        void append(char letter) {
            if (size < MOST_LETTERS) {
                text[size] = letter;
                size++;
            }
        }

        /** How many letters, from the first, some machine begins with. */
        int fitting() {
            current = 0;
            expected = AT_KIND;
            int fits = 0;
            while (fits < size && take(text[fits])) {
                fits++;
            }
            return fits;
        }

        boolean isMachine() {
            return fitting() == size && (expected == IN_SHIFT || expected == AT_END);
        }

        /** The machine that isMachine() has just found. */
        Machine machineRead() {
            Part[] parts = new Part[current + 1];
            for (int i = 0; i < parts.length; i++) {
                parts[i] = partRead(i);
            }
            return new Machine(parts);
        }

        private Part partRead(int i) {
            switch (kinds[i]) {
                case GATE: return new Gate(sides[i]);
                case ROLLER: return new Roller(sides[i], turns[i], shifts[i]);
                case TOOTHED: return new Toothed(sides[i], turns[i], shifts[i]);
                default: return new Wound(sides[i], turns[i], shifts[i]);
            }
        }

        private boolean take(char letter) {
            switch (expected) {
                case AT_KIND: return takeKind(letter);
                case AT_SIDE: return takeSide(letter);
                case AT_O: return takeSign(letter, 'o', AT_TURN);
                case AT_TURN: return takeTurn(letter);
                case IN_TURN: return takeRestOfTurn(letter);
                case AT_P: return takeSign(letter, 'p', AT_SHIFT);
                case AT_SHIFT: return takeShift(letter);
                case IN_SHIFT: return takeRestOfShift(letter) || takeComma(letter);
                default: return takeComma(letter);
            }
        }

        private boolean takeKind(char letter) {
            int kind = kindOf(letter);
            kinds[current] = kind;
            expected = AT_SIDE;
            return kind != NONE;
        }

        private static int kindOf(char letter) {
            switch (letter) {
                case 'g': return GATE;
                case 'r': return ROLLER;
                case 't': return TOOTHED;
                case 'w': return WOUND;
                default: return NONE;
            }
        }

        private boolean takeSide(char letter) {
            int side = digitOf(letter);
            sides[current] = side;
            expected = kinds[current] == GATE ? AT_END : AT_O;
            return isSide(side);
        }

        private boolean takeSign(char letter, char sign, int then) {
            expected = then;
            return letter == sign;
        }

        private boolean takeTurn(char letter) {
            int digit = digitOf(letter);
            turns[current] = digit;
            // only a 1 can have a digit behind it: no turn is above 19
            expected = digit == 1 ? IN_TURN : AT_P;
            return digit > 0;
        }

        private boolean takeRestOfTurn(char letter) {
            int digit = digitOf(letter);
            if (digit == NONE) {
                // a round of 1 is none, a first way of 1 is one
                return kinds[current] == WOUND && takeSign(letter, 'p', AT_SHIFT);
            }
            turns[current] = 10 + digit;
            expected = AT_P;
            return true;
        }

        private boolean takeShift(char letter) {
            int digit = digitOf(letter);
            shifts[current] = digit;
            expected = digit == 1 && mostShift() >= 10 ? IN_SHIFT : AT_END;
            return digit != NONE && digit <= mostShift();
        }

        private boolean takeRestOfShift(char letter) {
            int digit = digitOf(letter);
            if (digit == NONE || 10 + digit > mostShift()) {
                return false;
            }
            shifts[current] = 10 + digit;
            expected = AT_END;
            return true;
        }

        private boolean takeComma(char letter) {
            if (letter != ',' || current + 1 >= MOST_PARTS) {
                return false;
            }
            current++;
            expected = AT_KIND;
            return true;
        }

        private int mostShift() {
            return kinds[current] == WOUND ? MOST_THICK : turns[current] - 1;
        }

        private static int digitOf(char letter) {
            return letter >= '0' && letter <= '9' ? letter - '0' : NONE;
        }
    }

    /** A print: a row of pictures. Its rows are made once and used again. */
    private static final class Print {
        int size = 0;
        private final int[] frames = new int[MOST_PICTURES];
        private final int[] blacks = new int[MOST_PICTURES];
        private final int[] whites = new int[MOST_PICTURES];
        // by frame, as prints are asked for frames more often than they change
        private final int[] places = new int[MOST_PICTURES];

        void begin(int n) {
            size = Math.min(n, MOST_PICTURES);
            for (int i = 0; i < size; i++) {
                frames[i] = i;
                blacks[i] = 0;
                whites[i] = 0;
            }
            findPlaces();
        }

        void takeFrom(Print other) {
            size = other.size;
            for (int i = 0; i < size; i++) {
                frames[i] = other.frames[i];
                blacks[i] = other.blacks[i];
                whites[i] = other.whites[i];
            }
            findPlaces();
        }

        /** As light through a print leaves it: each mark is a white one. */
        void whiten() {
            for (int i = 0; i < size; i++) {
                whites[i] |= blacks[i];
                blacks[i] = 0;
            }
        }

        void takeOut(int a, int b) {
            int out = b - a + 1;
            for (int i = b + 1; i < size; i++) {
                frames[i - out] = frames[i];
                blacks[i - out] = blacks[i];
                whites[i - out] = whites[i];
            }
            size -= out;
            findPlaces();
        }

        private void findPlaces() {
            for (int f = 0; f < MOST_PICTURES; f++) {
                places[f] = NONE;
            }
            // from behind, so that the first picture of a frame is the one that is found
            for (int i = size - 1; i >= 0; i--) {
                places[frames[i]] = i;
            }
        }

        int placeOf(int frame) {
            return isWithin(frame, 0, MOST_PICTURES - 1) ? places[frame] : NONE;
        }

        int tell(int i, int what) {
            switch (what) {
                case 0: return frames[i];
                case 1: return blacks[i];
                default: return whites[i];
            }
        }

        /** Whether this changed anything. */
        boolean put(int i, int side, int sort, boolean is) {
            int[] row = sort == BLACK ? blacks : whites;
            int bit = 1 << side;
            boolean was = (row[i] & bit) != 0;
            row[i] = is ? row[i] | bit : row[i] & ~bit;
            return was != is;
        }

        int leave(Part part, boolean back) {
            long touched = part.touched(size);
            long meant = back ? turned(touched, size) : touched;
            int fresh = 0;
            for (int i = 0; i < size; i++) {
                if (isIn(meant, i) && put(i, part.side, BLACK, true)) {
                    fresh++;
                }
            }
            return fresh;
        }

        /** Of a picture, as bits: the sides with a mark of that sort. */
        int sidesMarked(int i, int sort) {
            int told = 0;
            if (sort != WHITE) {
                told |= blacks[i];
            }
            if (sort != BLACK) {
                told |= whites[i];
            }
            return told;
        }

        /** As bits: the pictures with a mark of that sort on that side. */
        long marked(int side, int sort) {
            long told = 0L;
            for (int i = 0; i < size; i++) {
                if (isIn(sidesMarked(i, sort), side)) {
                    told |= 1L << i;
                }
            }
            return told;
        }

        int lastAhead(int place, int side) {
            for (int i = Math.min(place, size) - 1; i >= 0; i--) {
                if (isIn(blacks[i], side)) {
                    return i;
                }
            }
            return NONE;
        }

        int firstFrom(int place, int side) {
            for (int i = Math.max(place, 0); i < size; i++) {
                if (isIn(blacks[i], side)) {
                    return i;
                }
            }
            return NONE;
        }

        int whiteMarks() {
            int marks = 0;
            for (int i = 0; i < size; i++) {
                marks += Integer.bitCount(whites[i]);
            }
            return marks;
        }

        int marksOn(int i) {
            return Integer.bitCount(blacks[i]) + Integer.bitCount(whites[i]);
        }
    }

    /** What an image keeps: all prints and traces. */
    private static final class Shelf {
        final Print[] prints = new Print[MOST_PRINTS];
        int printCount = 0;
        final int[] traceSides = new int[MOST_TRACES];
        final int[] traceRounds = new int[MOST_TRACES];
        int traceCount = 0;

        Shelf() {
            for (int i = 0; i < MOST_PRINTS; i++) {
                prints[i] = new Print();
            }
        }

        void takeFrom(Shelf other) {
            printCount = other.printCount;
            for (int i = 0; i < printCount; i++) {
                prints[i].takeFrom(other.prints[i]);
            }
            traceCount = other.traceCount;
            for (int i = 0; i < traceCount; i++) {
                traceSides[i] = other.traceSides[i];
                traceRounds[i] = other.traceRounds[i];
            }
        }

        Print printAt(int number) {
            return isWithin(number, 0, printCount - 1) ? prints[number] : null;
        }

        /** One more print, for its caller to begin; null if there are all. */
        Print next() {
            if (printCount >= MOST_PRINTS) {
                return null;
            }
            printCount++;
            return prints[printCount - 1];
        }

        boolean addTrace(int side, int round) {
            if (traceCount >= MOST_TRACES) {
                return false;
            }
            traceSides[traceCount] = side;
            traceRounds[traceCount] = round;
            traceCount++;
            return true;
        }

        boolean tracesAllow(Print asked, int place, int g) {
            for (int i = 0; i < traceCount; i++) {
                int last = asked.lastAhead(place, traceSides[i]);
                int first = asked.firstFrom(place, traceSides[i]);
                int round = traceRounds[i];
                if (last != NONE && first != NONE && round > 0 && last % round != (first + g) % round) {
                    return false;
                }
            }
            return true;
        }

        int pictures() {
            int all = 0;
            for (int i = 0; i < printCount; i++) {
                all += prints[i].size;
            }
            return all;
        }

        int marks() {
            int all = 0;
            for (int i = 0; i < printCount; i++) {
                for (int k = 0; k < prints[i].size; k++) {
                    all += prints[i].marksOn(k);
                }
            }
            return all;
        }

        /** The marked sides of a print that a sum of all prints does not clean. */
        int remaining(int number) {
            Print asked = printAt(number);
            int sides = 0;
            for (int i = 0; asked != null && i < asked.size; i++) {
                sides += Integer.bitCount(asked.sidesMarked(i, EITHER) & ~cleanedFrom(number, asked.tell(i, 0)));
            }
            return sides;
        }

        /** As bits: the sides of a frame that two other prints or more have without a mark. */
        private int cleanedFrom(int number, int frame) {
            int once = 0;
            int twice = 0;
            for (int i = 0; i < printCount; i++) {
                int there = i == number ? NONE : prints[i].placeOf(frame);
                if (there != NONE) {
                    int clean = ~prints[i].sidesMarked(there, EITHER);
                    twice |= once & clean;
                    once |= clean;
                }
            }
            return twice;
        }
    }

    /** The search for the tree: which print was copied from which. */
    private static final class Descent {
        private static final int FROM_NONE = MOST_PRINTS;
        // more than six prints of 48 pictures can lack
        private static final int TOO_MUCH = 1000000;

        private final int[][] lacking = new int[MOST_PRINTS][MOST_PRINTS + 1];
        private final int[] leastFrom = new int[MOST_PRINTS + 1];
        private final int[] from = new int[MOST_PRINTS];
        private final int[] best = new int[MOST_PRINTS];
        private int prints = 0;
        int least = 0;

        void grow(Shelf shelf, int cost) {
            prints = shelf.printCount;
            weigh(shelf, cost);
            least = TOO_MUCH;
            choose(0, 0);
        }

        int bestFrom(int i) {
            return isWithin(i, 0, prints - 1) && best[i] != FROM_NONE ? best[i] : NONE;
        }

        private void weigh(Shelf shelf, int cost) {
            leastFrom[prints] = 0;
            for (int i = prints - 1; i >= 0; i--) {
                lacking[i][FROM_NONE] = shelf.prints[i].whiteMarks() + cost;
                int lowest = lacking[i][FROM_NONE];
                for (int p = 0; p < prints; p++) {
                    if (p != i) {
                        lacking[i][p] = lackingOf(shelf.prints[i], shelf.prints[p]);
                        lowest = Math.min(lowest, lacking[i][p]);
                    }
                }
                leastFrom[i] = leastFrom[i + 1] + lowest;
            }
        }

        // The choices are gone through in the order that decides between like
        // trees, so only a tree that lacks less takes the place of the best.
        private void choose(int i, int sum) {
            if (i > prints || sum + leastFrom[i] >= least) {
                return;
            }
            if (i == prints) {
                least = sum;
                System.arraycopy(from, 0, best, 0, prints);
                return;
            }
            for (int p = 0; p < prints; p++) {
                if (!comesFrom(p, i)) {
                    goOn(i, p, sum);
                }
            }
            goOn(i, FROM_NONE, sum);
        }

        private void goOn(int i, int p, int sum) {
            from[i] = p;
            choose(i + 1, sum + lacking[i][p]);
        }

        /** Whether p is i or comes from it, by what is chosen for those ahead of i. */
        private boolean comesFrom(int p, int i) {
            int up = p;
            for (int step = 0; step < MOST_PRINTS && up < i; step++) {
                up = from[up];
            }
            return up == i;
        }
    }

    /** The search for the whole: each frame from the print that has it best. */
    private static final class Joining {
        private final int[][] onward = new int[MOST_PICTURES][MOST_PRINTS];
        private final int[] chosen = new int[MOST_PICTURES];
        private int prints = 0;
        int together = 0;
        int leftOut = 0;

        void join(Shelf shelf, int n, int cost) {
            prints = shelf.printCount;
            weigh(shelf, n, cost);
            together = 0;
            leftOut = 0;
            int ahead = NONE;
            for (int f = 0; f < n; f++) {
                chosen[f] = cheapest(f, ahead, cost);
                if (chosen[f] == NONE) {
                    leftOut++;
                } else {
                    together = ahead == NONE ? onward[f][chosen[f]] : together;
                    ahead = chosen[f];
                }
            }
        }

        int chosenFor(int frame) {
            return isWithin(frame, 0, MOST_PICTURES - 1) ? chosen[frame] : NONE;
        }

        /** What each frame costs from each print, with all frames behind it. */
        private void weigh(Shelf shelf, int n, int cost) {
            int behind = NONE;
            for (int f = n - 1; f >= 0; f--) {
                boolean had = false;
                for (int p = 0; p < prints; p++) {
                    int there = shelf.prints[p].placeOf(f);
                    onward[f][p] = NONE;
                    if (there != NONE) {
                        had = true;
                        int rest = behind == NONE ? 0 : costOf(behind, cheapest(behind, p, cost), p, cost);
                        onward[f][p] = shelf.prints[p].marksOn(there) + rest;
                    }
                }
                behind = had ? f : behind;
            }
        }

        /** The first of the best prints for a frame, with a print ahead; NONE if none has it. */
        private int cheapest(int f, int ahead, int cost) {
            int found = NONE;
            for (int p = 0; p < prints; p++) {
                if (onward[f][p] != NONE
                        && (found == NONE || costOf(f, p, ahead, cost) < costOf(f, found, ahead, cost))) {
                    found = p;
                }
            }
            return found;
        }

        private int costOf(int f, int p, int ahead, int cost) {
            if (p == NONE) {
                return 0;
            }
            return onward[f][p] + (ahead == NONE || ahead == p ? 0 : cost);
        }
    }
}
