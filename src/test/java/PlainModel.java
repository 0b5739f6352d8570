import java.math.BigInteger;
import java.util.ArrayList;
import java.util.Arrays;
import java.util.HashSet;
import java.util.List;
import java.util.Set;
import java.util.TreeSet;

/**
 * The document once more, with the whole Java library, by trying all there is:
 * slow, and as unlike the class as can be, so that a slip in one shows against the other.
 */
final class PlainModel {
    static final int NONE = -1, UNKNOWN = -101, OUTSIDE = -102, STATE = -103, FULL = -104;

    private static final Set<String> PART_TEXTS = partTexts();
    private static final Set<String> BEGINNINGS = beginnings();

    private static final class Picture {
        final int frame;
        final TreeSet<Integer> black = new TreeSet<>();
        final TreeSet<Integer> white = new TreeSet<>();

        Picture(int frame) {
            this.frame = frame;
        }

        Picture twin() {
            Picture twin = new Picture(frame);
            twin.black.addAll(black);
            twin.white.addAll(white);
            return twin;
        }

        boolean has(int side, int sort) {
            return sort != 1 && black.contains(side) || sort != 0 && white.contains(side);
        }
    }

    private String page = "";
    private final List<String> machines = new ArrayList<>();
    private List<List<Picture>> prints = new ArrayList<>();
    private List<int[]> traces = new ArrayList<>();
    private List<List<Picture>> keptPrints = null;
    private List<int[]> keptTraces = null;
    private int trees = 0;

    private static Set<String> partTexts() {
        Set<String> texts = new HashSet<>();
        for (int side = 0; side <= 7; side++) {
            texts.add("g" + side);
            for (int round = 2; round <= 19; round++) {
                for (int phase = 0; phase < round; phase++) {
                    texts.add("r" + side + "o" + round + "p" + phase);
                    texts.add("t" + side + "o" + round + "p" + phase);
                }
            }
            for (int first = 1; first <= 19; first++) {
                for (int thick = 0; thick <= 9; thick++) {
                    texts.add("w" + side + "o" + first + "p" + thick);
                }
            }
        }
        return texts;
    }

    private static Set<String> beginnings() {
        Set<String> all = new HashSet<>();
        for (String text : PART_TEXTS) {
            for (int i = 0; i <= text.length(); i++) {
                all.add(text.substring(0, i));
            }
        }
        return all;
    }

    private static boolean begins(String text) {
        String[] pieces = text.split(",", -1);
        if (pieces.length > 4) {
            return false;
        }
        for (int i = 0; i < pieces.length - 1; i++) {
            if (!PART_TEXTS.contains(pieces[i])) {
                return false;
            }
        }
        return BEGINNINGS.contains(pieces[pieces.length - 1]);
    }

    private static int[] numbers(String text) {
        String[] pieces = text.substring(1).split("[op]");
        return Arrays.stream(pieces).mapToInt(Integer::parseInt).toArray();
    }

    private boolean isPrint(int print) {
        return print >= 0 && print < prints.size();
    }

    private static boolean in(int x, int low, int high) {
        return x >= low && x <= high;
    }

    int letters(long w) {
        StringBuilder coming = new StringBuilder();
        boolean ended = false;
        for (int i = 0; i < 8; i++) {
            int letter = (int) (w >> 8 * i & 0xff);
            if (letter > 126 || ended && letter != 0) {
                return OUTSIDE;
            }
            ended = letter == 0;
            if (!ended) {
                coming.append((char) letter);
            }
        }
        if (page.length() + coming.length() > 40) {
            return FULL;
        }
        page += coming;
        return page.length();
    }

    int blank() {
        int had = page.length();
        page = "";
        return had;
    }

    int fault() {
        for (int i = 0; i < page.length(); i++) {
            if (!begins(page.substring(0, i + 1))) {
                return i;
            }
        }
        return page.length();
    }

    int machine() {
        String[] pieces = page.split(",", -1);
        if (pieces.length > 4 || !PART_TEXTS.containsAll(Arrays.asList(pieces))) {
            return STATE;
        }
        if (machines.size() == 6) {
            return FULL;
        }
        machines.add(page);
        page = "";
        return machines.size() - 1;
    }

    private String partText(int machine, int part) {
        if (!in(machine, 0, machines.size() - 1)) {
            return null;
        }
        String[] pieces = machines.get(machine).split(",");
        return in(part, 0, pieces.length - 1) ? pieces[part] : null;
    }

    private static int told(String text, int what) {
        if (what == 0) {
            return "?grtw".indexOf(text.charAt(0));
        }
        int[] numbers = numbers(text);
        return what - 1 < numbers.length ? numbers[what - 1] : NONE;
    }

    int part(int machine, int part, int what) {
        String text = partText(machine, part);
        if (text == null) {
            return UNKNOWN;
        }
        return in(what, 0, 3) ? told(text, what) : OUTSIDE;
    }

    int as(int machine, int part, int kind) {
        String text = partText(machine, part);
        if (text == null) {
            return UNKNOWN;
        }
        if (!in(kind, 0, 4)) {
            return OUTSIDE;
        }
        String[] kinds = {"grtw", "g", "rt", "t", "w"};
        return kinds[kind].indexOf(text.charAt(0)) >= 0 ? part : NONE;
    }

    int print(int n) {
        if (!in(n, 1, 48)) {
            return OUTSIDE;
        }
        if (prints.size() == 6) {
            return FULL;
        }
        List<Picture> film = new ArrayList<>();
        for (int i = 0; i < n; i++) {
            film.add(new Picture(i));
        }
        prints.add(film);
        return prints.size() - 1;
    }

    /** The pictures of n that a part marks forward, in order. */
    private static List<Integer> touched(String text, int n) {
        List<Integer> all = new ArrayList<>();
        int[] numbers = numbers(text);
        char kind = text.charAt(0);
        if (kind == 'w') {
            for (int turns = 0; turns < 100; turns++) {
                // FIRST for each way, and THICK 0, 1, 2 .. times
                int at = numbers[1] * (turns + 1) + numbers[2] * turns * (turns + 1) / 2;
                if (at < n) {
                    all.add(at);
                }
            }
            return all;
        }
        boolean skip = false;
        for (int i = 0; i < n; i++) {
            if (kind == 'g') {
                all.add(i);
            } else if (i % numbers[1] == numbers[2]) {
                if (kind == 'r' || !skip) {
                    all.add(i);
                }
                skip = !skip;
            }
        }
        return all;
    }

    int run(int print, int machine, boolean back) {
        if (!isPrint(print) || !in(machine, 0, machines.size() - 1)) {
            return UNKNOWN;
        }
        List<Picture> film = prints.get(print);
        int fresh = 0;
        for (String text : machines.get(machine).split(",")) {
            for (int i : touched(text, film.size())) {
                fresh += film.get(back ? film.size() - 1 - i : i).black.add(numbers(text)[0]) ? 1 : 0;
            }
        }
        return fresh;
    }

    int mend(int print, int a, int b) {
        if (!isPrint(print)) {
            return UNKNOWN;
        }
        List<Picture> film = prints.get(print);
        if (!in(a, 0, film.size() - 1) || !in(b, a, film.size() - 1) || a == 0 && b == film.size() - 1) {
            return OUTSIDE;
        }
        film.subList(a, b + 1).clear();
        return film.size();
    }

    private static List<Picture> twin(List<Picture> film) {
        List<Picture> twin = new ArrayList<>();
        film.forEach(p -> twin.add(p.twin()));
        return twin;
    }

    int copy(int print) {
        if (!isPrint(print)) {
            return UNKNOWN;
        }
        if (prints.size() == 6) {
            return FULL;
        }
        List<Picture> film = twin(prints.get(print));
        for (Picture p : film) {
            p.white.addAll(p.black);
            p.black.clear();
        }
        prints.add(film);
        return prints.size() - 1;
    }

    int mark(int print, int picture, int side, int sort, boolean is) {
        if (!isPrint(print) || !in(picture, 0, prints.get(print).size() - 1)) {
            return UNKNOWN;
        }
        if (!in(side, 0, 7) || !in(sort, 0, 1)) {
            return OUTSIDE;
        }
        Picture p = prints.get(print).get(picture);
        Set<Integer> marks = sort == 0 ? p.black : p.white;
        return (is ? marks.add(side) : marks.remove(side)) ? 1 : 0;
    }

    int length(int print) {
        return isPrint(print) ? prints.get(print).size() : UNKNOWN;
    }

    private static int bits(Set<Integer> sides) {
        int bits = 0;
        for (int side : sides) {
            bits += 1 << side;
        }
        return bits;
    }

    int picture(int print, int picture, int what) {
        if (!isPrint(print) || !in(picture, 0, prints.get(print).size() - 1)) {
            return UNKNOWN;
        }
        if (!in(what, 0, 2)) {
            return OUTSIDE;
        }
        Picture p = prints.get(print).get(picture);
        return what == 0 ? p.frame : bits(what == 1 ? p.black : p.white);
    }

    private boolean may(int print, int side, int sort, int round, int phase) {
        int there = 0;
        List<Picture> film = prints.get(print);
        for (int i = 0; i < film.size(); i++) {
            if (i % round == phase) {
                there++;
                if (!film.get(i).has(side, sort)) {
                    return false;
                }
            }
        }
        return there >= 2;
    }

    int lets(int print, int side, int sort, int round, int phase) {
        if (!isPrint(print)) {
            return UNKNOWN;
        }
        if (!in(side, 0, 7) || !in(sort, 0, 2) || !in(round, 2, 19) || !in(phase, 0, round - 1)) {
            return OUTSIDE;
        }
        return may(print, side, sort, round, phase) ? 1 : 0;
    }

    int rounds(int print, int side, int sort) {
        if (!isPrint(print)) {
            return UNKNOWN;
        }
        if (!in(side, 0, 7) || !in(sort, 0, 2)) {
            return OUTSIDE;
        }
        int bits = 0;
        for (int round = 2; round <= 19; round++) {
            for (int phase = 0; phase < round; phase++) {
                if (may(print, side, sort, round, phase)) {
                    bits |= 1 << round;
                }
            }
        }
        return bits;
    }

    private static BigInteger ways(int n, int k) {
        BigInteger ways = BigInteger.ONE;
        for (int i = 0; i < k; i++) {
            ways = ways.multiply(BigInteger.valueOf(n - i)).divide(BigInteger.valueOf(i + 1));
        }
        return ways;
    }

    long chance(int print, int side, int sort, int round, int phase, int part) {
        if (!isPrint(print)) {
            return UNKNOWN;
        }
        if (!in(side, 0, 7) || !in(sort, 0, 2) || !in(round, 2, 19) || !in(phase, 0, round - 1) || !in(part, 0, 1)) {
            return OUTSIDE;
        }
        List<Picture> film = prints.get(print);
        int dealt = (int) film.stream().filter(p -> p.has(side, sort)).count();
        int needed = 0;
        for (int i = 0; i < film.size(); i++) {
            needed += i % round == phase ? 1 : 0;
        }
        // of all ways to deal, those where the needed ones have one
        BigInteger above = needed > dealt ? BigInteger.ZERO : ways(film.size() - needed, dealt - needed);
        BigInteger below = ways(film.size(), dealt);
        BigInteger divisor = above.gcd(below);
        return (part == 0 ? above : below).divide(divisor).longValueExact();
    }

    private int owners(int print) {
        List<Picture> film = prints.get(print);
        int owners = 0;
        for (int m = 0; m < machines.size(); m++) {
            boolean all = true;
            for (String text : machines.get(m).split(",")) {
                int side = numbers(text)[0];
                all &= touched(text, film.size()).stream().allMatch(i -> film.get(i).has(side, 0));
            }
            owners |= all ? 1 << m : 0;
        }
        return owners;
    }

    int whose(int print) {
        return isPrint(print) ? owners(print) : UNKNOWN;
    }

    int wound(int print, int side, int sort, boolean back, int what) {
        if (!isPrint(print)) {
            return UNKNOWN;
        }
        if (!in(side, 0, 7) || !in(sort, 0, 2) || !in(what, 0, 2)) {
            return OUTSIDE;
        }
        List<Picture> film = prints.get(print);
        List<int[]> pairs = new ArrayList<>();
        for (int first = 1; first <= 19; first++) {
            for (int thick = 0; thick <= 9; thick++) {
                List<Integer> all = touched("w0o" + first + "p" + thick, film.size());
                if (all.size() >= 3
                        && all.stream().allMatch(i -> film.get(back ? film.size() - 1 - i : i).has(side, sort))) {
                    pairs.add(new int[] {first, thick});
                }
            }
        }
        if (what == 0) {
            return pairs.size();
        }
        return pairs.isEmpty() ? NONE : pairs.get(0)[what - 1];
    }

    int trace(int side, int round) {
        if (!in(side, 0, 7) || !in(round, 2, 19)) {
            return OUTSIDE;
        }
        if (traces.size() == 4) {
            return FULL;
        }
        traces.add(new int[] {side, round});
        return traces.size();
    }

    int clear() {
        int had = traces.size();
        traces.clear();
        return had;
    }

    /** The last mark ahead of a place and the first from it on; null if one is lacking. */
    private int[] around(int print, int side, int place) {
        List<Picture> film = prints.get(print);
        int last = NONE;
        int first = NONE;
        for (int i = 0; i < film.size(); i++) {
            if (film.get(i).has(side, 0)) {
                if (i < place) {
                    last = i;
                } else if (first == NONE) {
                    first = i;
                }
            }
        }
        return last == NONE || first == NONE ? null : new int[] {last, first};
    }

    int gone(int print, int place) {
        if (!isPrint(print)) {
            return UNKNOWN;
        }
        if (!in(place, 1, prints.get(print).size() - 1)) {
            return OUTSIDE;
        }
        for (int g = 0; g <= 99; g++) {
            boolean all = true;
            for (int[] trace : traces) {
                int[] around = around(print, trace[0], place);
                all &= around == null || (around[1] + g - around[0]) % trace[1] == 0;
            }
            if (all) {
                return g;
            }
        }
        return NONE;
    }

    int earlier(int print, int side, int round, int place) {
        if (!isPrint(print)) {
            return UNKNOWN;
        }
        if (!in(side, 0, 7) || !in(round, 2, 19) || !in(place, 1, prints.get(print).size() - 1)) {
            return OUTSIDE;
        }
        int[] around = around(print, side, place);
        return around == null ? NONE : (around[1] - around[0]) % round == 0 ? 0 : 1;
    }

    private Picture of(int print, int frame) {
        return prints.get(print).stream().filter(p -> p.frame == frame).findFirst().orElse(null);
    }

    private int lacking(int q, int p, int cost) {
        int lacking = p == NONE ? cost : 0;
        for (Picture own : prints.get(q)) {
            Picture other = p == NONE ? null : of(p, own.frame);
            lacking += p != NONE && other == null ? 8 : 0;
            lacking += (int) own.white.stream().filter(side -> other == null || !other.has(side, 2)).count();
        }
        return lacking;
    }

    int lacks(int q, int p, int cost) {
        if (!isPrint(q) || p == q || p != NONE && !isPrint(p)) {
            return UNKNOWN;
        }
        return in(cost, 0, 99) ? lacking(q, p, cost) : OUTSIDE;
    }

    private static boolean ends(int[] from) {
        for (int i = 0; i < from.length; i++) {
            int up = i;
            for (int step = 0; step <= from.length && up != NONE; step++) {
                up = from[up];
            }
            if (up != NONE) {
                return false;
            }
        }
        return true;
    }

    /** All ways there are, by what is first in order; the first of the least. */
    private int[] leastTree(int cost) {
        int n = prints.size();
        int[][] lacking = new int[n][n + 1];
        for (int q = 0; q < n; q++) {
            for (int p = 0; p <= n; p++) {
                lacking[q][p] = p == q ? 0 : lacking(q, p == n ? NONE : p, cost);
            }
        }
        int all = 1;
        for (int i = 0; i < n; i++) {
            all *= n + 1;
        }
        int[] best = null;
        for (int way = 0; way < all; way++) {
            int[] told = new int[n + 1];
            int[] from = new int[n];
            int rest = way;
            boolean self = false;
            for (int i = n - 1; i >= 0; i--) {
                int p = rest % (n + 1);
                rest /= n + 1;
                self |= p == i;
                from[i] = p == n ? NONE : p;
                told[i + 1] = from[i];
                told[0] += lacking[i][p];
            }
            if (!self && (best == null || told[0] < best[0]) && ends(from)) {
                best = told;
            }
        }
        return best;
    }

    int tree(int cost, int what) {
        if (!in(cost, 0, 99) || what != 0 && !in(what, 1, prints.size())) {
            return OUTSIDE;
        }
        if (prints.isEmpty() || trees == 12) {
            return STATE;
        }
        trees++;
        return leastTree(cost)[what];
    }

    /** A way of n frames: what it costs, the print that is ahead, and the print of each frame. */
    private static final class Way {
        int cost = 0;
        int ahead = NONE;
        final List<Integer> chosen = new ArrayList<>();

        Way then(int print, int price) {
            Way way = new Way();
            way.cost = cost + price;
            way.ahead = print == NONE ? ahead : print;
            way.chosen.addAll(chosen);
            way.chosen.add(print);
            return way;
        }

        boolean isBetter(Way other) {
            if (cost != other.cost) {
                return cost < other.cost;
            }
            for (int i = 0; i < chosen.size(); i++) {
                if (!chosen.get(i).equals(other.chosen.get(i))) {
                    return chosen.get(i) < other.chosen.get(i);
                }
            }
            return false;
        }
    }

    private Way bestWay(int n, int cost) {
        List<Way> ways = new ArrayList<>();
        ways.add(new Way());
        for (int f = 0; f < n; f++) {
            List<Way> next = new ArrayList<>();
            for (int p = 0; p < prints.size(); p++) {
                Picture picture = of(p, f);
                Way best = null;
                for (Way way : ways) {
                    if (picture != null) {
                        int price = picture.black.size() + picture.white.size();
                        Way longer = way.then(p, price + (way.ahead == NONE || way.ahead == p ? 0 : cost));
                        best = best == null || longer.isBetter(best) ? longer : best;
                    }
                }
                if (best != null) {
                    next.add(best);
                }
            }
            if (next.isEmpty()) {
                ways.forEach(way -> next.add(way.then(NONE, 0)));
            }
            ways = next;
        }
        Way best = ways.get(0);
        for (Way way : ways) {
            best = way.isBetter(best) ? way : best;
        }
        return best;
    }

    int whole(int n, int cost, int what) {
        if (!in(n, 1, 48) || !in(cost, 0, 99) || !in(what, 0, 1) && !in(what, 10, 9 + n)) {
            return OUTSIDE;
        }
        if (prints.isEmpty()) {
            return STATE;
        }
        Way best = bestWay(n, cost);
        if (what == 0) {
            return best.cost;
        }
        return what >= 10 ? best.chosen.get(what - 10) : (int) best.chosen.stream().filter(p -> p == NONE).count();
    }

    int left(int print) {
        if (!isPrint(print)) {
            return UNKNOWN;
        }
        int left = 0;
        for (Picture own : prints.get(print)) {
            for (int side = 0; side < 8; side++) {
                int clean = 0;
                for (int other = 0; other < prints.size(); other++) {
                    Picture theirs = other == print ? null : of(other, own.frame);
                    clean += theirs != null && !theirs.has(side, 2) ? 1 : 0;
                }
                left += own.has(side, 2) && clean <= 1 ? 1 : 0;
            }
        }
        return left;
    }

    int image() {
        keptPrints = new ArrayList<>();
        prints.forEach(film -> keptPrints.add(twin(film)));
        keptTraces = new ArrayList<>(traces);
        return prints.size();
    }

    int restore() {
        if (keptPrints == null) {
            return STATE;
        }
        prints = new ArrayList<>();
        keptPrints.forEach(film -> prints.add(twin(film)));
        traces = new ArrayList<>(keptTraces);
        return prints.size();
    }

    int count(int what) {
        int pictures = 0;
        int marks = 0;
        for (List<Picture> film : prints) {
            pictures += film.size();
            for (Picture p : film) {
                marks += p.black.size() + p.white.size();
            }
        }
        int[] counts = {prints.size(), machines.size(), pictures, marks, traces.size(), page.length(), trees};
        return in(what, 0, 6) ? counts[what] : OUTSIDE;
    }

    long digest() {
        List<Integer> numbers = new ArrayList<>();
        for (String machine : machines) {
            for (String text : machine.split(",")) {
                for (int what = 0; what <= 3; what++) {
                    numbers.add(told(text, what));
                }
            }
        }
        for (int print = 0; print < prints.size(); print++) {
            numbers.add(length(print));
            for (Picture p : prints.get(print)) {
                numbers.addAll(List.of(p.frame, bits(p.black), bits(p.white)));
            }
            numbers.addAll(List.of(rounds(print, 0, 2), owners(print), left(print)));
        }
        traces.forEach(trace -> numbers.addAll(List.of(trace[0], trace[1])));
        page.chars().forEach(numbers::add);
        for (int what = 0; what <= 6; what++) {
            numbers.add(count(what));
        }
        long h = 463;
        for (int number : numbers) {
            h = 31 * h + number;
        }
        return h;
    }
}
