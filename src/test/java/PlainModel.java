import java.util.ArrayList;
import java.util.Arrays;
import java.util.HashMap;
import java.util.List;
import java.util.Map;
import java.util.function.IntBinaryOperator;

/**
 * The document once more, written for nothing but plainness: it parses by descent, copies the whole piece for
 * every pass, and tries everything there is to try. Random runs compare QuietCut with it.
 */
final class PlainModel {
    static final int NONE = -1, RANGE = -2, FULL = -3, STATE = -4;

    static final class Fault extends RuntimeException {
        private static final long serialVersionUID = 1L;
        final int kind, place;
        Fault(int kind, int place) { this.kind = kind; this.place = place; }
    }

    record Token(char kind, String text, int place) {
        boolean is(String sign) { return kind == 's' && text.equals(sign); }
        int number() { return Integer.parseInt(text); }
    }

    record Pass(int r, int speed, int feed, int turns) { }

    static final class Stock {
        int[][] heights;
        int[][][] left;
        int wear, passes;
        Stock(int rings, int sectors, int height) {
            heights = new int[rings][sectors];
            left = new int[rings][sectors][];
            for (int[] row : heights) Arrays.fill(row, height);
        }
        Stock copy() {
            Stock c = new Stock(heights.length, heights[0].length, 0);
            for (int r = 0; r < heights.length; r++) {
                c.heights[r] = heights[r].clone();
                c.left[r] = left[r].clone();
            }
            c.wear = wear;
            c.passes = passes;
            return c;
        }
    }

    static final class Shop {
        int sectors = 8, rings = 3, mass = 4, limit = 500, mark = 20, turns = 4;
        int[] stiff = {8, 8}, damp = {2, 2};
        List<Integer> teeth = new ArrayList<>(List.of(0)), sway = new ArrayList<>(List.of(0));
        IntBinaryOperator force = (h, w) -> h, wall = (l, g) -> 0, wear = (h, w) -> 0;
        int clauses;
    }

    private String tape = "";
    private Shop shop = new Shop();
    private Stock stock = new Stock(3, 8, 1000);
    private int faultKind = 0, faultPlace = NONE;
    private int[] lastPass;
    private int[] result;
    private List<Integer> planRow = List.of();
    private final List<Pass> jobs = new ArrayList<>();
    private List<Integer> orderRow = List.of();
    private final List<Pass> offers = new ArrayList<>();
    private final List<int[]> heards = new ArrayList<>(), rights = new ArrayList<>();
    private int latest = 0;
    private List<Integer> sound = List.of();

    int feed(int... ints) {
        if (tape.length() + 20 > 1000) return FULL;
        StringBuilder b = new StringBuilder(tape);
        for (int i : ints) for (int s = 24; s >= 0; s -= 8) b.append((char) (i >>> s & 255));
        tape = b.toString();
        return tape.length();
    }

    int end(int n) {
        if (n < 0 || n > tape.length()) return NONE;
        tape = tape.substring(0, n);
        return n;
    }

    // ---- reading

    private List<Token> tokens;
    private int at;
    private int operands;

    private static List<Token> tokensOf(String text) {
        List<Token> list = new ArrayList<>();
        java.util.regex.Matcher m = java.util.regex.Pattern.compile("[a-z]+|[0-9]+|[^ \n]", java.util.regex.Pattern.DOTALL).matcher(text);
        while (m.find()) {
            String t = m.group();
            char c = t.charAt(0);
            char kind = c >= 'a' && c <= 'z' ? (t.length() <= 8 ? 'w' : 'x') : c >= '0' && c <= '9' ? (t.length() <= 4 ? 'n' : 'x')
                    : ";()+-*/%".indexOf(c) >= 0 ? 's' : 'x';
            list.add(new Token(kind, t, m.start()));
        }
        list.add(new Token('e', "", text.length()));
        return list;
    }

    private Token peek() { return tokens.get(at); }
    private Token take() { return tokens.get(at++); }
    private Fault syntax() { return new Fault(1, peek().place); }

    private int number(int low, int high) {
        Token t = peek();
        if (t.kind != 'n') throw syntax();
        if (t.number() < low || t.number() > high) throw new Fault(2, t.place);
        return take().number();
    }

    private List<Integer> numbers(int most, int high) {
        List<Integer> list = new ArrayList<>();
        do {
            int place = peek().place;
            int n = number(0, high);
            if (list.size() == most) throw new Fault(4, place);
            list.add(n);
        } while (!peek().is(";"));
        return list;
    }

    private int[] span() {
        int a = number(0, 200);
        return new int[] {a, number(a, Math.min(200, a + 3))};
    }

    private Shop readShop(String text) {
        tokens = tokensOf(text);
        at = 0;
        Shop s = new Shop();
        List<String> told = new ArrayList<>();
        while (peek().kind != 'e') {
            Token t = peek();
            if (t.kind != 'w' || !List.of("sectors", "rings", "mass", "stiff", "damp", "limit", "mark", "turns", "teeth", "sway", "force", "wall", "wear").contains(t.text)) throw syntax();
            if (told.contains(t.text)) throw new Fault(3, t.place);
            told.add(take().text);
            operands = 0;
            switch (t.text) {
                case "sectors" -> s.sectors = number(4, 16);
                case "rings" -> s.rings = number(1, 6);
                case "mass" -> s.mass = number(1, 99);
                case "stiff" -> s.stiff = span();
                case "damp" -> s.damp = span();
                case "limit" -> s.limit = number(1, 9999);
                case "mark" -> s.mark = number(0, 9999);
                case "turns" -> s.turns = number(1, 12);
                case "teeth" -> s.teeth = numbers(4, 15);
                case "sway" -> s.sway = numbers(6, 9);
                case "force" -> s.force = sum("hw", 0);
                case "wall" -> s.wall = sum("lg", 0);
                default -> s.wear = sum("h", 0);
            }
            if (!peek().is(";")) throw syntax();
            take();
            s.clauses++;
        }
        return s;
    }

    private IntBinaryOperator sum(String letters, int open) {
        IntBinaryOperator f = product(letters, open);
        while (peek().is("+") || peek().is("-")) {
            boolean plus = take().is("+");
            IntBinaryOperator a = f, b = product(letters, open);
            f = (p, q) -> plus ? a.applyAsInt(p, q) + b.applyAsInt(p, q) : a.applyAsInt(p, q) - b.applyAsInt(p, q);
        }
        return f;
    }

    private IntBinaryOperator product(String letters, int open) {
        IntBinaryOperator f = factor(letters, open);
        while (peek().is("*") || peek().is("/") || peek().is("%")) {
            String sign = take().text;
            IntBinaryOperator a = f, b = factor(letters, open);
            f = (p, q) -> {
                int l = a.applyAsInt(p, q), r = b.applyAsInt(p, q);
                if (sign.equals("*")) return l * r;
                if (r == 0) return 0;
                return sign.equals("/") ? l / r : l - l / r * r;
            };
        }
        return f;
    }

    private IntBinaryOperator factor(String letters, int open) {
        Token t = peek();
        if (t.is("(") || t.is("-")) {
            if (open == 4) throw new Fault(4, t.place);
            take();
            if (t.is("-")) {
                IntBinaryOperator a = factor(letters, open + 1);
                return (p, q) -> -a.applyAsInt(p, q);
            }
            IntBinaryOperator a = sum(letters, open + 1);
            if (!peek().is(")")) throw syntax();
            take();
            return a;
        }
        boolean letter = t.kind == 'w' && t.text.length() == 1 && letters.contains(t.text);
        if (t.kind != 'n' && !letter) throw syntax();
        if (++operands > 12) throw new Fault(4, t.place);
        take();
        if (letter) return letters.indexOf(t.text) == 0 ? (p, q) -> p : (p, q) -> q;
        int n = t.number();
        return (p, q) -> n;
    }

    int shop() {
        String text = tape;
        tape = "";
        try {
            shop = readShop(text);
        } catch (Fault f) {
            faultKind = f.kind;
            faultPlace = f.place;
            return NONE;
        }
        faultKind = 0;
        faultPlace = NONE;
        stock = new Stock(shop.rings, shop.sectors, 1000);
        jobs.clear();
        orderRow = List.of();
        offers.clear();
        heards.clear();
        rights.clear();
        latest = 0;
        return shop.clauses;
    }

    int sound() {
        String text = tape;
        tape = "";
        try {
            tokens = tokensOf(text);
            at = 0;
            List<Integer> list = new ArrayList<>();
            do {
                boolean minus = peek().is("-");
                if (minus) take();
                Token t = peek();
                int n = number(0, 9999);
                if (list.size() == 150) throw new Fault(4, t.place);
                list.add(minus ? -n : n);
            } while (peek().kind != 'e');
            sound = list;
        } catch (Fault f) {
            faultKind = f.kind;
            faultPlace = f.place;
            return NONE;
        }
        faultKind = 0;
        faultPlace = NONE;
        return sound.size();
    }

    int fault(int what) { return what == 0 ? faultKind : what == 1 ? faultPlace : NONE; }

    int told(int what) {
        Map<Integer, Integer> m = new HashMap<>();
        int[] first = {shop.sectors, shop.rings, shop.mass, shop.stiff[0], shop.stiff[1], shop.damp[0], shop.damp[1], shop.limit, shop.mark, shop.turns, shop.teeth.size(), shop.sway.size()};
        for (int i = 0; i < first.length; i++) m.put(i, first[i]);
        for (int i = 0; i < shop.teeth.size(); i++) m.put(20 + i, shop.teeth.get(i));
        for (int i = 0; i < shop.sway.size(); i++) m.put(30 + i, shop.sway.get(i));
        return m.getOrDefault(what, NONE);
    }

    int tells(int what, int a, int b) {
        return what == 0 ? shop.force.applyAsInt(a, b) : what == 1 ? shop.wall.applyAsInt(a, b) : what == 2 ? shop.wear.applyAsInt(a, b) : 0;
    }

    // ---- the piece

    int piece(int height) {
        if (height < 100 || height > 5000) return RANGE;
        stock = new Stock(shop.rings, shop.sectors, height);
        return 1;
    }

    private boolean place(int r, int s) { return r >= 0 && r < shop.rings && s >= 0 && s < shop.sectors; }

    int height(int r, int s) { return place(r, s) ? stock.heights[r][s] : -100000; }

    int set(int r, int s, int height) {
        if (!place(r, s) || height < 100 || height > 5000) return -100000;
        int was = stock.heights[r][s];
        stock.heights[r][s] = height;
        stock.left[r][s] = null;
        return was;
    }

    int change() {
        int was = stock.wear;
        stock.wear = 0;
        return was;
    }

    private boolean isPass(int r, int speed, int feed, int turns) {
        return r >= 0 && r < shop.rings && speed >= 1 && speed <= 9 && feed >= 1 && feed <= 20 && turns >= 1 && turns <= 12;
    }

    private boolean isHold(int stiff, int damp) { return stiff >= 0 && stiff <= 300 && damp >= 0 && damp <= 300; }

    private static int clamp(int n, int low, int high) { return n < low ? low : n > high ? high : n; }

    /** Cuts on this very stock; result holds what passed() tells; STATE when it can't be. */
    private int go(Stock s, Pass p, List<Integer> teeth, int stiff, int damp) {
        int[] ring = s.heights[p.r];
        int level = Arrays.stream(ring).max().getAsInt();
        if (level - p.feed * p.turns < 1) return STATE;
        List<Integer> near = new ArrayList<>();
        for (int r : new int[] {p.r - 1, p.r + 1}) if (r >= 0 && r < shop.rings) for (int h : s.heights[r]) near.add(h);
        int gap = near.stream().mapToInt(Integer::intValue).min().orElse(level);
        long x = 0, v = 0;
        int far = 0, out = 0, time = 0, begun = 0;
        boolean shaken = false;
        all:
        for (int t = 0; t < p.turns; t++) {
            begun = t + 1;
            for (int i = 0; i < shop.sectors; i++) {
                long sum = 0;
                for (int j = 0; j < teeth.size(); j++) {
                    int where = (i + teeth.get(j)) % shop.sectors;
                    int to = level - p.feed * (t + 1) + (int) x;
                    int h = ring[where] - to;
                    if (h > 0) {
                        sum += clamp(shop.force.applyAsInt(h, s.wear), -9999, 9999);
                        s.wear = (int) Math.min(30000L, (long) s.wear + Math.max(0, shop.wear.applyAsInt(h, 0)));
                        ring[where] = to;
                        s.left[p.r][where] = new int[] {s.passes, t, j, (int) x + 20000};
                    } else {
                        out++;
                    }
                }
                int steps = p.speed + shop.sway.get((t * shop.sectors + i) % shop.sway.size());
                long k = stiff + clamp(shop.wall.applyAsInt(ring[i], gap), 0, 999);
                for (int n = 0; n < steps; n++) {
                    v += (sum - k * x - damp * v) / shop.mass;
                    x += v;
                    time++;
                    far = Math.max(far, (int) Math.abs(x));
                    if (x > shop.limit || x < -shop.limit) {
                        shaken = true;
                        break all;
                    }
                }
            }
        }
        s.passes++;
        int wave = level(ring) - Arrays.stream(ring).min().getAsInt();
        result = new int[] {wave, time, out, far, (int) x, s.wear, begun};
        return shaken ? 2 : wave > shop.mark ? 1 : 0;
    }

    private static int level(int[] ring) { return Arrays.stream(ring).max().getAsInt(); }

    int attempt(int r, int speed, int feed, int turns, int stiff, int damp) {
        if (!isPass(r, speed, feed, turns) || !isHold(stiff, damp)) return RANGE;
        int verdict = go(stock.copy(), new Pass(r, speed, feed, turns), shop.teeth, stiff, damp);
        if (verdict >= 0) lastPass = result;
        return verdict;
    }

    int cut(int r, int speed, int feed, int turns, int stiff, int damp) {
        if (!isPass(r, speed, feed, turns) || !isHold(stiff, damp)) return RANGE;
        Stock next = stock.copy();
        int verdict = go(next, new Pass(r, speed, feed, turns), shop.teeth, stiff, damp);
        if (verdict < 0) return verdict;
        if (stock.passes == 200) return FULL;
        stock = next;
        lastPass = result;
        return verdict;
    }

    int passed(int what) { return lastPass == null || what < 0 || what > 6 ? -1000000 : lastPass[what]; }

    int left(int r, int s, int what) {
        return !place(r, s) || stock.left[r][s] == null || what < 0 || what > 3 ? NONE : stock.left[r][s][what];
    }

    // ---- what is quiet

    private int sureness(Pass p, List<Integer> teeth) {
        int quiet = 0, all = 0;
        for (int k = shop.stiff[0]; k <= shop.stiff[1]; k++) {
            for (int d = shop.damp[0]; d <= shop.damp[1]; d++) {
                int verdict = go(stock.copy(), p, teeth, k, d);
                if (verdict == STATE) return STATE;
                all++;
                if (verdict == 0) quiet++;
            }
        }
        return quiet == all ? 1 : quiet == 0 ? 0 : 2;
    }

    int sure(int r, int speed, int feed, int turns) {
        return isPass(r, speed, feed, turns) ? sureness(new Pass(r, speed, feed, turns), shop.teeth) : RANGE;
    }

    private int deepestWith(int r, int speed, List<Integer> teeth) {
        int deepest = NONE;
        for (int f = 1; f <= 20; f++) if (sureness(new Pass(r, speed, f, shop.turns), teeth) == 1) deepest = f;
        return deepest;
    }

    int deepest(int r, int speed) { return isPass(r, speed, 1, 1) ? deepestWith(r, speed, shop.teeth) : RANGE; }

    private int timeOf(int speed) {
        int time = 0;
        for (int i = 0; i < shop.turns * shop.sectors; i++) time += speed + shop.sway.get(i % shop.sway.size());
        return time;
    }

    int best(int r) {
        if (!isPass(r, 1, 1, 1)) return RANGE;
        int best = NONE;
        double most = 0;
        for (int s = 1; s <= 9; s++) {
            int d = deepestWith(r, s, shop.teeth);
            // Two such fractions that differ do so by more than a double's fault.
            if (d != NONE && (double) d / timeOf(s) > most + 1e-12) {
                best = s;
                most = (double) d / timeOf(s);
            }
        }
        return best;
    }

    /** A row as one list: its time, how many, then the passes; null when there is none. */
    private List<Integer> leastRow(int feeds, List<Integer> passes, Map<Integer, List<Integer>> known) {
        if (feeds == 0) return List.of(0, 0);
        if (known.containsKey(feeds)) return known.get(feeds);
        List<Integer> best = null;
        for (int code : passes) {
            int speed = (code - 1) / 20, feed = code - 20 * speed;
            if (feed > feeds) continue;
            List<Integer> rest = leastRow(feeds - feed, passes, known);
            if (rest == null) continue;
            List<Integer> row = new ArrayList<>(List.of(rest.get(0) + timeOf(speed), rest.get(1) + 1, code));
            row.addAll(rest.subList(2, rest.size()));
            if (best == null || compare(row, best) < 0) best = row;
        }
        known.put(feeds, best);
        return best;
    }

    private static int compare(List<Integer> a, List<Integer> b) {
        for (int i = 0; i < Math.min(a.size(), b.size()); i++) if (!a.get(i).equals(b.get(i))) return a.get(i) - b.get(i);
        return a.size() - b.size();
    }

    int plan(int r, int depth) {
        if (!isPass(r, 1, 1, 1) || depth < 1 || depth > 400) return RANGE;
        List<Integer> passes = new ArrayList<>();
        for (int s = 1; s <= 9; s++) for (int f = 1; f <= 20; f++) if (sureness(new Pass(r, s, f, shop.turns), shop.teeth) == 1) passes.add(20 * s + f);
        if (depth % shop.turns != 0) return NONE;
        List<Integer> row = leastRow(depth / shop.turns, passes, new HashMap<>());
        if (row == null) return NONE;
        planRow = row.subList(2, row.size());
        return row.get(0);
    }

    int planned(int what) {
        if (planRow.isEmpty()) return NONE;
        return what == 0 ? planRow.size() : what >= 10 && what - 10 < planRow.size() ? planRow.get(what - 10) : NONE;
    }

    int bestTeeth(int r, int speed, int many, int list) {
        if (!isPass(r, speed, 1, 1) || many < 1 || many > 4 || list < 0 || list > 65535 || Integer.bitCount(list) < many || Integer.bitCount(list) > 6) return RANGE;
        int best = NONE, most = 0;
        for (int set = 0; set < 65536; set++) {
            if ((set & list) != set || Integer.bitCount(set) != many) continue;
            List<Integer> teeth = new ArrayList<>();
            for (int b = 0; b < 16; b++) if ((set >> b & 1) == 1) teeth.add(b);
            int d = deepestWith(r, speed, teeth);
            if (d > most) {
                most = d;
                best = set;
            }
        }
        return best;
    }

    int job(int r, int speed, int feed, int turns) {
        if (!isPass(r, speed, feed, turns)) return RANGE;
        if (jobs.size() == 5) return FULL;
        jobs.add(new Pass(r, speed, feed, turns));
        orderRow = List.of();
        return jobs.size() - 1;
    }

    int order(int stiff, int damp) {
        if (!isHold(stiff, damp)) return RANGE;
        if (jobs.isEmpty()) return STATE;
        int n = jobs.size(), least = NONE;
        int rows = 1;
        for (int i = 0; i < n; i++) rows *= n;
        for (int code = 0; code < rows; code++) {
            List<Integer> row = new ArrayList<>();
            for (int i = 0, c = rows / n; i < n; i++, c = Math.max(1, c / n)) row.add(code / c % n);
            if (row.stream().distinct().count() != n) continue;
            Stock s = stock.copy();
            int sum = 0;
            for (int j : row) {
                if (sum == NONE || go(s, jobs.get(j), shop.teeth, stiff, damp) != 0) sum = NONE;
                else sum += result[0];
            }
            if (sum != NONE && (least == NONE || sum < least)) {
                least = sum;
                orderRow = row;
            }
        }
        return least;
    }

    int ordered(int i) { return i >= 0 && i < orderRow.size() ? orderRow.get(i) : NONE; }

    int until(int r, int speed, int feed, int turns, int stiff, int damp) {
        if (!isPass(r, speed, feed, turns) || !isHold(stiff, damp)) return RANGE;
        Stock s = stock.copy();
        int times = 0;
        while (times < 30 && go(s, new Pass(r, speed, feed, turns), shop.teeth, stiff, damp) == 0) times++;
        return times;
    }

    // ---- what was heard

    int offer(int r, int speed, int feed, int turns) {
        if (!isPass(r, speed, feed, turns)) return RANGE;
        if (offers.size() == 10) return FULL;
        offers.add(new Pass(r, speed, feed, turns));
        return offers.size() - 1;
    }

    int heard(int told, int o, int verdict) {
        if (told < latest || told > 999 || o < 0 || o >= offers.size() || verdict < 0 || verdict > 2) return RANGE;
        if (heards.size() == 30) return FULL;
        latest = told;
        heards.add(new int[] {told, o, verdict});
        return heards.size() - 1;
    }

    int right(int told, int k, int verdict) {
        if (told < latest || told > 999 || k < 0 || k >= heards.size() || verdict < 0 || verdict > 2 || told <= heards.get(k)[0]) return RANGE;
        if (rights.size() == 20) return FULL;
        latest = told;
        rights.add(new int[] {told, k, verdict});
        return (int) rights.stream().filter(a -> a[1] == k).count();
    }

    private int verdictOf(int o, int pair) {
        return go(new Stock(shop.rings, shop.sectors, 1000), offers.get(o), shop.teeth, shop.stiff[0] + pair / 4, shop.damp[0] + pair % 4);
    }

    int fit(int known) {
        if (known < 0 || known > 999) return RANGE;
        int bits = 0;
        for (int k = 0; k <= shop.stiff[1] - shop.stiff[0]; k++) {
            for (int d = 0; d <= shop.damp[1] - shop.damp[0]; d++) {
                boolean fits = true;
                for (int i = 0; i < heards.size(); i++) {
                    if (heards.get(i)[0] > known) continue;
                    int verdict = heards.get(i)[2];
                    for (int[] a : rights) if (a[1] == i && a[0] <= known) verdict = a[2];
                    fits &= verdictOf(heards.get(i)[1], 4 * k + d) == verdict;
                }
                if (fits) bits |= 1 << 4 * k + d;
            }
        }
        return bits;
    }

    int next() {
        int bits = fit(999), best = NONE, least = 99;
        for (int o = 0; o < offers.size(); o++) {
            int[] many = new int[3];
            for (int pair = 0; pair < 16; pair++) if ((bits >> pair & 1) == 1) many[verdictOf(o, pair)]++;
            int most = Math.max(many[0], Math.max(many[1], many[2]));
            if (most < Integer.bitCount(bits) && most < least) {
                least = most;
                best = o;
            }
        }
        return best;
    }

    // ---- sounds

    int ringsOut(int t, int n, int m, int a) {
        if (t < 1 || t > 60 || n < 1 || n > 60 || m < 1 || m > n || a < 0 || a > 9999) return RANGE;
        for (int i = t; i < sound.size(); i++) {
            int many = 0;
            for (int j = Math.max(t, i - n + 1); j <= i; j++) if (Math.abs(sound.get(j) - sound.get(j - t)) > a) many++;
            if (many >= m) return i;
        }
        return NONE;
    }

    int forced(int t) {
        if (t < 1 || t > 60) return RANGE;
        if (sound.size() <= t) return NONE;
        int changes = 0, sum = 0;
        for (int i = t; i < sound.size(); i++) {
            changes += Math.abs(sound.get(i) - sound.get(i - t));
            sum += Math.abs(sound.get(i));
        }
        return changes > sum / 2.0 ? 0 : 1;
    }

    int count(int what) {
        int[] all = {stock.wear, stock.passes, jobs.size(), offers.size(), heards.size(), rights.size(), sound.size(), tape.length()};
        return what < 0 || what >= all.length ? NONE : all[what];
    }
}
