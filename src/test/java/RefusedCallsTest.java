import java.util.ArrayList;
import java.util.List;
import java.util.function.Supplier;
import java.util.function.ToIntFunction;

/**
 * Behind each call that is refused, or that only tells, all stands as it stood: of two objects with the same calls
 * behind them only one gets that call, and then both answer alike whatever is asked and done.
 */
public final class RefusedCallsTest {
    private static final String RICH = "sectors 4;rings 2;mass 9;stiff 6 8;damp 3 5;limit 300;mark 9;turns 2;teeth 0 2;sway 1 0;force h;wall (l-g)/100;wear h;";
    private static final int MIN = Integer.MIN_VALUE, MAX = Integer.MAX_VALUE;

    private static int refused = 0;

    private record Call(String name, int want, ToIntFunction<QuietCut> made) { }

    public static void main(String[] args) {
        Due.sentence("RANGE = -2");
        all(ofRange(), RefusedCallsTest::rich);
        all(ofRange(), RefusedCallsTest::full);
        Due.sentence("STATE = -4");
        all(ofState(), RefusedCallsTest::low);
        all(ofNoJobs(), RefusedCallsTest::bare);
        Due.sentence("FULL = -3");
        all(ofFull(), RefusedCallsTest::full);
        Due.sentence("NONE = -1");
        all(ofNone(), RefusedCallsTest::rich);
        all(ofNone(), RefusedCallsTest::full);
        all(ofNone(), RefusedCallsTest::low);
        Due.sentence("NONE with a FAULT (it stays)");
        faults(true);
        Due.sentence("NONE with a FAULT (KIND 1, or 4: the 151st, at its N; the one before stays)");
        faults(false);
        Due.sentence("Nothing is promised beyond the answers and state changes described above");
        all(ofTelling(), RefusedCallsTest::rich);
        all(ofTelling(), RefusedCallsTest::full);
        Due.holds("some hundred calls were looked behind", refused > 300);
        Due.finish("RefusedCallsTest");
    }

    private static void all(List<Call> calls, Supplier<QuietCut> state) {
        for (Call call : calls) {
            QuietCut plain = state.get();
            QuietCut tested = state.get();
            int answer = call.made.applyAsInt(tested);
            if (call.want != MIN) {
                Due.due(call.name, answer, call.want);
            }
            alike(call.name, plain, tested, true);
        }
    }

    private static void alike(String name, QuietCut plain, QuietCut tested, boolean faultToo) {
        refused++;
        List<Integer> want = lookAt(plain, faultToo);
        List<Integer> got = lookAt(tested, faultToo);
        int first = 0;
        while (first < want.size() && want.get(first).equals(got.get(first))) {
            first++;
        }
        Due.due("the first answer that differs behind " + name, first, want.size());
    }

    // ---- states

    private static QuietCut rich() {
        QuietCut q = new QuietCut();
        Due.sound(q, "1 5 2 -6 1 5 3");
        Due.due("a rich shop", Due.shop(q, RICH), 13);
        q.cut(0, 1, 4, 1, 7, 4);
        q.cut(1, 2, 3, 2, 6, 3);
        q.set(1, 2, 990);
        Due.holds("a plan", q.plan(0, 12) > 0);
        q.job(0, 1, 2, 1);
        q.job(0, 1, 18, 1);
        Due.holds("an order", q.order(7, 4) >= 0);
        q.attempt(0, 3, 9, 2, 8, 5);
        q.offer(0, 3, 9, 2);
        q.offer(1, 1, 12, 3);
        q.heard(4, 0, 1);
        q.heard(6, 1, 0);
        q.right(8, 0, 0);
        Due.feed(q, "mass 7;");
        return q;
    }

    /** Ring 1 stands at 100 everywhere. */
    private static QuietCut low() {
        QuietCut q = rich();
        for (int s = 0; s < 4; s++) {
            q.set(1, s, 100);
        }
        return q;
    }

    private static QuietCut bare() {
        QuietCut q = new QuietCut();
        Due.due("a rich shop", Due.shop(q, RICH), 13);
        return q;
    }

    private static QuietCut full() {
        QuietCut q = new QuietCut();
        Due.sound(q, "1 ".repeat(149) + "7");
        Due.due("a rich shop", Due.shop(q, RICH), 13);
        q.piece(5000);
        for (int i = 0; i < 200; i++) {
            q.cut(i % 2, 1, 1, 1, 7, 4);
        }
        Due.holds("a plan", q.plan(0, 12) > 0);
        for (int i = 0; i < 5; i++) {
            q.job(i % 2, 1, 17 + i % 2, 1);
        }
        Due.holds("an order", q.order(7, 4) >= 0);
        for (int i = 0; i < 10; i++) {
            q.offer(0, 3, 2 * i + 1, 2);
        }
        for (int i = 0; i < 30; i++) {
            q.heard(i / 10, i % 10, 0);
        }
        for (int i = 0; i < 20; i++) {
            q.right(5 + i / 10, i, i % 2);
        }
        Due.feed(q, " ".repeat(993) + "mass 7;");
        return q;
    }

    // ---- calls

    private static void add(List<Call> calls, String name, int want, ToIntFunction<QuietCut> made) {
        calls.add(new Call(name, want, made));
    }

    private static List<Call> ofRange() {
        List<Call> calls = new ArrayList<>();
        int[] low = {0, 1, 1, 1, 0, 0};
        int[] high = {1, 9, 20, 12, 300, 300};
        for (int at = 0; at < 6; at++) {
            for (int n : new int[] {low[at] - 1, high[at] + 1}) {
                int[] p = low.clone();
                p[at] = n;
                add(calls, "attempt", Due.RANGE, q -> q.attempt(p[0], p[1], p[2], p[3], p[4], p[5]));
                add(calls, "cut", Due.RANGE, q -> q.cut(p[0], p[1], p[2], p[3], p[4], p[5]));
                add(calls, "until", Due.RANGE, q -> q.until(p[0], p[1], p[2], p[3], p[4], p[5]));
                if (at < 4) {
                    add(calls, "sure", Due.RANGE, q -> q.sure(p[0], p[1], p[2], p[3]));
                    add(calls, "job", Due.RANGE, q -> q.job(p[0], p[1], p[2], p[3]));
                    add(calls, "offer", Due.RANGE, q -> q.offer(p[0], p[1], p[2], p[3]));
                } else {
                    add(calls, "order", Due.RANGE, q -> q.order(p[4], p[5]));
                }
                if (at < 2) {
                    add(calls, "deepest", Due.RANGE, q -> q.deepest(p[0], p[1]));
                    add(calls, "bestTeeth", Due.RANGE, q -> q.bestTeeth(p[0], p[1], 1, 7));
                }
            }
        }
        for (int n : new int[] {-1, 2}) {
            add(calls, "best", Due.RANGE, q -> q.best(n));
            add(calls, "plan", Due.RANGE, q -> q.plan(n, 4));
            add(calls, "height", Due.NO_HEIGHT, q -> q.height(n, 0));
            add(calls, "set", Due.NO_HEIGHT, q -> q.set(n, 0, 500));
            add(calls, "set", Due.NO_HEIGHT, q -> q.set(0, n * 2, 500));
        }
        for (int n : new int[] {99, 5001}) {
            add(calls, "piece", Due.RANGE, q -> q.piece(n));
            add(calls, "set", Due.NO_HEIGHT, q -> q.set(0, 0, n));
        }
        for (int n : new int[] {0, 401}) {
            add(calls, "plan", Due.RANGE, q -> q.plan(0, n));
        }
        int[][] teeth = {{0, 7}, {5, 63}, {4, 7}, {1, 127}, {1, 0}, {1, 65536}, {1, MIN}};
        for (int[] t : teeth) {
            add(calls, "bestTeeth", Due.RANGE, q -> q.bestTeeth(0, 1, t[0], t[1]));
        }
        rangeOfHearing(calls);
        return calls;
    }

    private static void rangeOfHearing(List<Call> calls) {
        int[][] heard = {{-1, 0, 0}, {1000, 0, 0}, {999, -1, 0}, {999, 10, 0}, {999, 0, -1}, {999, 0, 3}, {0, 0, 0}};
        for (int[] h : heard) {
            add(calls, "heard", Due.RANGE, q -> q.heard(h[0], h[1], h[2]));
        }
        int[][] right = {{-1, 0, 0}, {1000, 0, 0}, {999, -1, 0}, {999, 30, 0}, {999, 0, -1}, {999, 0, 3}, {0, 0, 0}};
        for (int[] r : right) {
            add(calls, "right", Due.RANGE, q -> q.right(r[0], r[1], r[2]));
        }
        add(calls, "fit", Due.RANGE, q -> q.fit(-1));
        add(calls, "fit", Due.RANGE, q -> q.fit(1000));
        int[][] rings = {{0, 1, 1, 0}, {61, 1, 1, 0}, {1, 0, 1, 0}, {1, 61, 1, 0}, {1, 1, 0, 0}, {1, 1, 2, 0}, {1, 1, 1, -1}, {1, 1, 1, 10000}};
        for (int[] r : rings) {
            add(calls, "ringsOut", Due.RANGE, q -> q.ringsOut(r[0], r[1], r[2], r[3]));
        }
        add(calls, "forced", Due.RANGE, q -> q.forced(0));
        add(calls, "forced", Due.RANGE, q -> q.forced(61));
    }

    private static List<Call> ofState() {
        List<Call> calls = new ArrayList<>();
        int[][] passes = {{10, 10}, {20, 5}, {20, 12}, {9, 12}};
        for (int[] p : passes) {
            add(calls, "attempt", Due.STATE, q -> q.attempt(1, 1, p[0], p[1], 7, 4));
            add(calls, "cut", Due.STATE, q -> q.cut(1, 1, p[0], p[1], 7, 4));
            add(calls, "sure", Due.STATE, q -> q.sure(1, 1, p[0], p[1]));
            add(calls, "until", 0, q -> q.until(1, 1, p[0], p[1], 7, 4));
        }
        return calls;
    }

    private static List<Call> ofNoJobs() {
        List<Call> calls = new ArrayList<>();
        add(calls, "order", Due.STATE, q -> q.order(7, 4));
        add(calls, "order", Due.STATE, q -> q.order(0, 300));
        return calls;
    }

    private static List<Call> ofFull() {
        List<Call> calls = new ArrayList<>();
        add(calls, "feed", Due.FULL, q -> q.feed(1, 2, 3, 4, 5));
        add(calls, "cut", Due.FULL, q -> q.cut(0, 1, 1, 1, 7, 4));
        add(calls, "cut", Due.FULL, q -> q.cut(1, 9, 20, 12, 300, 300));
        add(calls, "job", Due.FULL, q -> q.job(0, 1, 1, 1));
        add(calls, "offer", Due.FULL, q -> q.offer(0, 1, 1, 1));
        add(calls, "heard", Due.FULL, q -> q.heard(6, 0, 0));
        add(calls, "heard", Due.FULL, q -> q.heard(999, 9, 2));
        add(calls, "right", Due.FULL, q -> q.right(6, 0, 0));
        add(calls, "right", Due.FULL, q -> q.right(999, 29, 2));
        return calls;
    }

    private static List<Call> ofNone() {
        List<Call> calls = new ArrayList<>();
        for (int n : new int[] {-1, 1001, MIN, MAX}) {
            add(calls, "end", Due.NONE, q -> q.end(n));
        }
        for (int n : new int[] {-1, 500, MIN, MAX}) {
            add(calls, "fault", Due.NONE, q -> q.fault(n));
            add(calls, "told", Due.NONE, q -> q.told(n));
            add(calls, "tells", 0, q -> q.tells(n, 1, 1));
            add(calls, "passed", Due.NOT_PASSED, q -> q.passed(n));
            add(calls, "left", Due.NONE, q -> q.left(0, 0, n));
            add(calls, "left", Due.NONE, q -> q.left(n, n, 0));
            add(calls, "planned", Due.NONE, q -> q.planned(n));
            add(calls, "ordered", Due.NONE, q -> q.ordered(n));
            add(calls, "count", Due.NONE, q -> q.count(n));
        }
        add(calls, "plan of an odd depth", Due.NONE, q -> q.plan(0, 13));
        add(calls, "order that shakes", Due.NONE, q -> q.order(300, 0));
        return calls;
    }

    /** Calls that tell and change nothing, or nothing but what the next of their kind tells anew. */
    private static List<Call> ofTelling() {
        List<Call> calls = new ArrayList<>();
        add(calls, "sure", MIN, q -> q.sure(0, 3, 9, 2));
        add(calls, "deepest", MIN, q -> q.deepest(1, 4));
        add(calls, "best", MIN, q -> q.best(0));
        add(calls, "bestTeeth", MIN, q -> q.bestTeeth(0, 2, 3, 0x8421));
        add(calls, "until", MIN, q -> q.until(0, 1, 2, 1, 7, 4));
        add(calls, "fit", MIN, q -> q.fit(999));
        add(calls, "next", MIN, QuietCut::next);
        add(calls, "ringsOut", MIN, q -> q.ringsOut(2, 3, 2, 4));
        add(calls, "forced", MIN, q -> q.forced(3));
        add(calls, "height", MIN, q -> q.height(1, 3));
        add(calls, "tells", MIN, q -> q.tells(1, 300, 20));
        add(calls, "the same plan again", MIN, q -> q.plan(0, 12));
        add(calls, "the same order again", MIN, q -> q.order(7, 4));
        return calls;
    }

    /** Both have read nothing: one had the text thrown away by end(0), the other by a reading with a FAULT. */
    private static void faults(boolean shop) {
        String[] texts = {"x", "mass 0;", "mass 5;mass 6;", "teeth 1 2 3 4 5;", "sectors 5;rings 6;teeth 1 2 3;sway 1 2 3;force w;wall 5;wear 9;stiff 0 0;damp 0 0;limit 5;mark 5;turns 5;mass 5",
            "1 2 x", "5 ".repeat(151), "-", "1 2 3 4 5 -"};
        for (String text : texts) {
            for (int full = 0; full < 2; full++) {
                QuietCut plain = full == 1 ? full() : rich();
                QuietCut tested = full == 1 ? full() : rich();
                plain.end(0);
                Due.feed(tested, text);
                Due.due((shop ? "shop() of " : "sound() of ") + text, shop ? tested.shop() : tested.sound(), Due.NONE);
                Due.holds("a KIND", tested.fault(0) >= 1 && tested.fault(0) <= 4);
                alike((shop ? "shop() of " : "sound() of ") + text, plain, tested, false);
            }
        }
    }

    // ---- all that can be asked, then all that can be done

    private static List<Integer> lookAt(QuietCut q, boolean faultToo) {
        List<Integer> seen = new ArrayList<>();
        for (int what = 0; what <= 36; what++) {
            seen.add(q.told(what));
        }
        for (int what = 0; what <= 7; what++) {
            seen.add(q.count(what));
            seen.add(q.passed(what));
            seen.add(q.ordered(what));
            seen.add(q.planned(what == 0 ? 0 : 9 + what));
        }
        for (int i = 0; i < 8; i++) {
            seen.add(q.height(i / 4, i % 4));
            seen.add(q.left(i / 4, i % 4, 0));
            seen.add(q.left(i / 4, i % 4, 3));
        }
        for (int step = 0; step <= 9; step++) {
            seen.add(q.fit(step));
        }
        seen.add(q.fit(999));
        seen.add(q.next());
        for (int t = 1; t <= 3; t++) {
            seen.add(q.forced(t));
            seen.add(q.ringsOut(t, 3, 1, 4));
            seen.add(q.tells(t - 1, 31, 17));
        }
        if (faultToo) {
            seen.add(q.fault(0));
            seen.add(q.fault(1));
        }
        doAll(q, seen);
        return seen;
    }

    private static void doAll(QuietCut q, List<Integer> seen) {
        seen.add(q.deepest(0, 3));
        seen.add(q.best(1));
        seen.add(q.bestTeeth(0, 2, 2, 0x8421));
        seen.add(q.until(1, 1, 1, 1, 7, 4));
        seen.add(q.order(7, 4));
        seen.add(q.ordered(0));
        seen.add(q.plan(0, 8));
        seen.add(q.planned(10));
        seen.add(q.cut(0, 1, 1, 1, 7, 4));
        seen.add(q.left(0, 1, 0));
        seen.add(q.passed(5));
        seen.add(q.job(0, 1, 1, 1));
        seen.add(q.offer(0, 1, 1, 1));
        for (int step = 3; step <= 9; step++) {
            seen.add(q.heard(step, 0, 0));
        }
        for (int step = 8; step <= 10; step++) {
            seen.add(q.right(step, 1, 0));
        }
        seen.add(q.fit(999));
        seen.add(q.feed(0x20202020, 0x20202020, 0x20202020, 0x20202020, 0x20202020));
        seen.add(q.shop());
        seen.add(q.told(2));
        seen.add(q.change());
    }
}
