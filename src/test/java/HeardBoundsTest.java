/** The bounds of what was heard and of sounds: OFFERS, HEARD, puttings RIGHT, FIT, NEXT, RINGS OUT, FORCED, count. */
public final class HeardBoundsTest {
    // The passes (speed, feed, turns) of OFFERS 0 to 5 part the 16 pairs of this SHOP in other ways each.
    private static final String PARTING = "sectors 6;rings 1;mass 4;stiff 4 7;damp 1 4;limit 22;mark 16;force h*2;";
    private static final int[][] PASSES = {{1, 10, 3}, {2, 4, 3}, {9, 14, 2}, {1, 1, 1}, {3, 7, 2}, {2, 9, 1}};

    public static void main(String[] args) {
        offers();
        heard();
        steps();
        right();
        rightLater();
        fitPairs();
        fitKnown();
        next();
        ringsOutNumbers();
        ringsOutPlaces();
        forced();
        count();
        shopForgets();
        Due.finish("HeardBoundsTest");
    }

    private static void offers() {
        Due.sentence("OFFERS, at most 10, numbered from 0: PASSES on a fresh PIECE (1000 everywhere, WEAR 0).");
        QuietCut q = Due.shopOf(Due.STILL);
        q.piece(100);
        for (int i = 0; i < 10; i++) {
            Due.due("count(3)", q.count(3), i);
            Due.due("RANGE", q.offer(0, 1, 1, 13), Due.RANGE);
            Due.due("offer no. " + i, q.offer(i % 2, 9, 20, 12), i);
        }
        Due.due("the 11th", q.offer(0, 1, 1, 1), Due.FULL);
        Due.due("the 11th, none", q.offer(2, 1, 1, 1), Due.RANGE);
        Due.due("count(3)", q.count(3), 10);
        Due.due("the last is there", q.heard(0, 9, 0), 0);
        Due.due("none behind it", q.heard(0, 10, 0), Due.RANGE);
        // Worn, low and uneven as the PIECE is, the OFFER is on a fresh one.
        q = Due.shopOf(PARTING + "wear h;");
        q.piece(100);
        q.set(0, 1, 5000);
        q.cut(0, 1, 20, 12, 4, 1);
        q.offer(0, 1, 10, 3);
        q.heard(0, 0, 0);
        Due.due("FIT", q.fit(0), 0x7fff);
        q.piece(300);
        Due.due("FIT of another PIECE", q.fit(0), 0x7fff);
        // WEAR of 1 would shake: neither the PIECE's own nor that of the OFFER before counts.
        q = Due.shopOf("sectors 4;rings 1;mass 1;limit 1;stiff 0 3;damp 0 3;force w/4*9;wear 1;");
        Due.due("worn", q.cut(0, 1, 1, 1, 0, 0), 0);
        Due.due("WEAR", q.count(0), 4);
        q.offer(0, 1, 1, 1);
        q.offer(0, 1, 1, 1);
        q.heard(0, 0, 0);
        q.heard(0, 1, 0);
        Due.due("QUIET for all", q.fit(0), 0xffff);
        q = Due.shopOf("sectors 4;rings 1;mass 1;limit 1;force w*9;");
        q.offer(0, 1, 1, 1);
        q.heard(0, 0, 0);
        Due.due("WEAR 0 and nothing else", q.fit(0), 1);
        Due.sentence("An OFFER: its number; RANGE; FULL. (One that can't be on a fresh PIECE: RANGE.)");
        // 1000 less 20 times 12 is 760: the deepest PASS of all can be.
        Due.due("the deepest", q.offer(0, 9, 20, 12), 1);
    }

    private static void heard() {
        Due.sentence("HEARD (at most 30, numbered from 0): of an OFFER a VERDICT");
        QuietCut q = Due.shopOf(Due.STILL);
        Due.due("no OFFER", q.heard(0, 0, 0), Due.RANGE);
        q.offer(0, 1, 1, 1);
        q.offer(0, 1, 1, 1);
        for (int i = 0; i < 30; i++) {
            Due.due("count(4)", q.count(4), i);
            for (int[] wrong : new int[][] {{i, -1, 0}, {i, 2, 0}, {i, 0, -1}, {i, 0, 3}, {i, Due.MAX, 0}, {i, Due.MIN, 0}, {i, 0, Due.MAX}, {i, 0, Due.MIN}}) {
                Due.due("RANGE", q.heard(wrong[0], wrong[1], wrong[2]), Due.RANGE);
            }
            Due.due("heard no. " + i, q.heard(i, i % 2, i % 3), i);
        }
        Due.due("the 31st", q.heard(29, 0, 0), Due.FULL);
        Due.due("the 31st at a later step", q.heard(999, 0, 0), Due.FULL);
        Due.due("the 31st, none", q.heard(29, 2, 0), Due.RANGE);
        Due.due("the 31st, no verdict", q.heard(29, 0, 3), Due.RANGE);
        Due.due("count(4)", q.count(4), 30);
        Due.due("the 31st moved no step on: the last can be put RIGHT at 30", q.right(30, 29, 0), 1);
    }

    private static void steps() {
        Due.sentence("told at a STEP of telling (0 .. 999, never falling)");
        for (int step : new int[] {0, 1, 998, 999, -1, 1000, Due.MIN, Due.MAX}) {
            QuietCut q = Due.shopOf(Due.STILL);
            q.offer(0, 1, 1, 1);
            boolean may = step >= 0 && step <= 999;
            Due.due("heard at " + step, q.heard(step, 0, 0), may ? 0 : Due.RANGE);
            Due.due("count(4)", q.count(4), may ? 1 : 0);
            Due.due("fit(" + step + ")", q.fit(step) == Due.RANGE ? 1 : 0, may ? 0 : 1);
            q = Due.shopOf(Due.STILL);
            q.offer(0, 1, 1, 1);
            q.heard(0, 0, 0);
            Due.due("right at " + step, q.right(step, 0, 0), may && step > 0 ? 1 : Due.RANGE);
        }
        QuietCut q = Due.shopOf(Due.STILL);
        q.offer(0, 1, 1, 1);
        Due.due("at 5", q.heard(5, 0, 0), 0);
        Due.due("at 4", q.heard(4, 0, 0), Due.RANGE);
        Due.due("at 5 again", q.heard(5, 0, 0), 1);
        Due.due("refused at 900: no OFFER", q.heard(900, 7, 0), Due.RANGE);
        Due.due("refused at 900: none was HEARD", q.right(900, 7, 0), Due.RANGE);
        Due.due("refused at 900: no VERDICT", q.right(900, 0, 3), Due.RANGE);
        Due.due("asked at 900", q.fit(900), 1);
        Due.due("at 5 still", q.heard(5, 0, 0), 2);
        Due.due("RIGHT at 8", q.right(8, 0, 0), 1);
        Due.due("at 7", q.heard(7, 0, 0), Due.RANGE);
        Due.due("RIGHT at 7", q.right(7, 1, 0), Due.RANGE);
        Due.due("at 8", q.heard(8, 0, 0), 3);
        Due.due("RIGHT at 8", q.right(8, 1, 0), 1);
        Due.due("at 999", q.heard(999, 0, 0), 4);
        Due.due("at 998", q.heard(998, 0, 0), Due.RANGE);
        Due.due("at 999 again", q.heard(999, 0, 0), 5);
    }

    private static void right() {
        Due.sentence("One that was HEARD is put RIGHT at a STEP of telling: how often it was; RANGE; FULL.");
        QuietCut q = Due.shopOf(Due.STILL);
        q.offer(0, 1, 1, 1);
        Due.due("none was HEARD", q.right(1, 0, 0), Due.RANGE);
        for (int i = 0; i < 3; i++) {
            q.heard(0, 0, 0);
        }
        int[][] wrong = {{1, -1, 0}, {1, 3, 0}, {1, Due.MAX, 0}, {1, Due.MIN, 0}, {1, 0, -1}, {1, 0, 3}, {1, 2, Due.MAX}, {-1, 0, 0}, {1000, 0, 0}};
        // Putting RIGHT no. n is of the one n % 3: 20 in all are 7, 7 and 6.
        for (int n = 0; n < 20; n++) {
            for (int[] call : wrong) {
                Due.due("RANGE", q.right(call[0], call[1], call[2]), Due.RANGE);
            }
            Due.due("count(5)", q.count(5), n);
            Due.due("right no. " + n, q.right(1, n % 3, n % 3), n / 3 + 1);
        }
        Due.sentence("put RIGHT at a later one (20 times at most in all)");
        for (int k = 0; k < 3; k++) {
            Due.due("the 21st", q.right(1, k, 0), Due.FULL);
            Due.due("the 21st at a later step", q.right(999, k, 0), Due.FULL);
        }
        Due.due("the 21st, none", q.right(1, 3, 0), Due.RANGE);
        Due.due("the 21st, falling", q.right(0, 0, 0), Due.RANGE);
        Due.due("count(5)", q.count(5), 20);
        Due.due("the 21st moved no step on", q.heard(1, 0, 0), 3);
        Due.due("all of one", allOfOne(), 20);
    }

    private static int allOfOne() {
        QuietCut q = Due.shopOf(Due.STILL);
        q.offer(0, 1, 1, 1);
        q.heard(0, 0, 0);
        int often = 0;
        for (int n = 1; n <= 20; n++) {
            often = q.right(n, 0, n % 3);
        }
        Due.due("the 21st", q.right(21, 0, 0), Due.FULL);
        return often;
    }

    private static void rightLater() {
        Due.sentence("perhaps put RIGHT at a later one");
        QuietCut q = Due.shopOf(Due.STILL);
        q.offer(0, 1, 1, 1);
        q.heard(5, 0, 0);
        Due.due("its own step is not later", q.right(5, 0, 1), Due.RANGE);
        Due.due("count(5)", q.count(5), 0);
        Due.due("one later", q.right(6, 0, 1), 1);
        Due.due("the step of a putting RIGHT is later than its own", q.right(6, 0, 2), 2);
        q.heard(6, 0, 0);
        Due.due("its own step", q.right(6, 1, 0), Due.RANGE);
        Due.due("another's, that was told before", q.right(6, 0, 0), 3);
        q.heard(999, 0, 0);
        Due.due("none is later than 999", q.right(999, 2, 0), Due.RANGE);
        Due.due("for those before it is", q.right(999, 1, 0), 1);
    }

    private static void fitPairs() {
        Due.sentence("all pairs of stiffness and damping of the spans with which all that was HEARD (as known then) is so: numbered 4 times what the stiffness is above its first, and what the damping is");
        for (Object[] one : QuietBoundsTest.PAIRS) {
            int pairs = (Integer) one[4];
            QuietCut q = Due.shopOf((String) one[0]);
            q.offer(0, (Integer) one[1], (Integer) one[2], (Integer) one[3]);
            Due.due("nothing was HEARD", q.fit(0), 0xffff);
            q.heard(0, 0, 0);
            Due.due("QUIET of " + one[0], q.fit(0), pairs);
            q.right(1, 0, 1);
            int marked = q.fit(1);
            q.right(2, 0, 2);
            int shaken = q.fit(2);
            Due.due("each pair has one VERDICT", pairs | marked | shaken, 0xffff);
            Due.due("and no other", pairs + marked + shaken, 0xffff);
        }
        for (int k = 0; k <= 3; k++) {
            for (int d = 0; d <= 3; d++) {
                int want = 0;
                for (int i = 0; i <= k; i++) {
                    want |= (2 << d) - 1 << 4 * i;
                }
                Due.due("spans of " + k + ", " + d, Due.shopOf("stiff 7 " + (7 + k) + ";damp 0 " + d + ";").fit(0), want);
                Due.due("spans of " + k + ", " + d, Due.shopOf("stiff " + (200 - k) + " 200;damp " + (200 - d) + " 200;").fit(999), want);
            }
        }
        QuietCut q = Due.shopOf(PARTING);
        q.offer(0, 1, 10, 3);
        q.heard(0, 0, 0);
        q.heard(0, 0, 1);
        Due.due("none with which two that differ are so", q.fit(0), 0);
    }

    private static void fitKnown() {
        Due.sentence("FIT as known at a STEP of telling, as bits; RANGE.");
        QuietCut q = Due.shopOf(PARTING);
        q.offer(0, 1, 10, 3);
        q.offer(0, 2, 4, 3);
        q.heard(10, 0, 0);
        q.heard(20, 1, 0);
        q.right(30, 0, 1);
        int other = q.fit(30);
        q.right(30, 0, 0);
        q.right(40, 1, 1);
        q.right(999, 1, 0);
        int[] known = {0, 9, 10, 19, 20, 29, 30, 39, 40, 998, 999};
        int both = 0x7fff & 0xefff;
        int marked = 0x7fff & pairsOf(PASSES[1], 1);
        int[] want = {0xffff, 0xffff, 0x7fff, 0x7fff, both, both, both, both, marked, marked, both};
        Due.due("at 30 first", other, pairsOf(PASSES[0], 1) & 0xefff);
        for (int i = 0; i < known.length; i++) {
            Due.due("fit(" + known[i] + ")", q.fit(known[i]), want[i]);
        }
        Due.holds("what was put RIGHT at 30 first, and at 40, was another thing", other != both && marked != both);
        for (int step : new int[] {-1, 1000, Due.MIN, Due.MAX}) {
            Due.due("fit(" + step + ")", q.fit(step), Due.RANGE);
        }
        // Not told yet, a step may be asked for all the same.
        q = Due.shopOf(PARTING);
        q.offer(0, 1, 10, 3);
        q.heard(3, 0, 0);
        Due.due("fit(999)", q.fit(999), 0x7fff);
        Due.due("fit(0)", q.fit(0), 0xffff);
    }

    private static void next() {
        Due.sentence("NEXT: the OFFER for which the greatest number of pairs of FIT (all that is known) with one VERDICT is least; then the least. None, if no OFFER parts them.");
        Due.due("no OFFERS", Due.shopOf(PARTING).next(), Due.NONE);
        QuietCut q = Due.shopOf(PARTING);
        for (int[] pass : PASSES) {
            q.offer(0, pass[0], pass[1], pass[2]);
        }
        Due.due("nothing was HEARD", q.next(), leastMost(PASSES, 0xffff));
        for (int o = 0; o < PASSES.length; o++) {
            for (int verdict = 0; verdict <= 2; verdict++) {
                q = Due.shopOf(PARTING);
                for (int[] pass : PASSES) {
                    q.offer(0, pass[0], pass[1], pass[2]);
                }
                q.heard(700, o, verdict);
                Due.due("OFFER " + o + " was HEARD as " + verdict, q.next(), leastMost(PASSES, q.fit(999)));
                q.right(999, 0, 0);
                Due.due("all that is known, up to the last step", q.next(), leastMost(PASSES, pairsOf(PASSES[o], 0)));
            }
        }
        noneIsParted();
        // The same OFFER again and again: the least of them.
        q = Due.shopOf(PARTING);
        for (int i = 0; i < 10; i++) {
            q.offer(0, 1, 10, 3);
        }
        Due.due("ten of the same", q.next(), 0);
        q = Due.shopOf(PARTING);
        for (int i = 0; i < 9; i++) {
            q.offer(0, 1, 1, 1);
        }
        Due.due("none of nine parts them", q.next(), Due.NONE);
        q.offer(0, 1, 10, 3);
        Due.due("the tenth alone parts them", q.next(), 9);
    }

    private static void noneIsParted() {
        // Either all of FIT is of one VERDICT, or FIT is one pair, or none.
        QuietCut q = Due.shopOf(Due.STILL + "stiff 0 3;damp 0 3;");
        q.offer(0, 1, 1, 1);
        Due.due("QUIET for all", q.next(), Due.NONE);
        q.heard(0, 0, 0);
        Due.due("QUIET for all", q.next(), Due.NONE);
        q.heard(0, 0, 2);
        Due.due("no pair is left", q.fit(0), 0);
        Due.due("no pair is left", q.next(), Due.NONE);
        q = Due.shopOf(PARTING);
        q.offer(0, 1, 10, 3);
        Due.due("15 and 1", q.next(), 0);
        q.heard(0, 0, 0);
        Due.due("15 that are not parted", q.next(), Due.NONE);
        q.offer(0, 2, 4, 3);
        Due.due("14 and 1", q.next(), 1);
        q = Due.shopOf((String) QuietBoundsTest.PAIRS[0][0]);
        q.offer(0, 9, 4, 2);
        q.offer(0, 7, 9, 2);
        q.heard(0, 0, 0);
        Due.due("one pair", q.fit(0), 1);
        Due.due("one pair", q.next(), Due.NONE);
    }

    private static int pairsOf(int[] pass, int verdict) {
        QuietCut q = Due.shopOf(PARTING);
        int pairs = 0;
        for (int pair = 0; pair < 16; pair++) {
            pairs |= q.attempt(0, pass[0], pass[1], pass[2], 4 + pair / 4, 1 + pair % 4) == verdict ? 1 << pair : 0;
        }
        return pairs;
    }

    private static int leastMost(int[][] passes, int fit) {
        int best = Due.NONE;
        int least = Integer.bitCount(fit);
        for (int o = 0; o < passes.length; o++) {
            int most = 0;
            for (int verdict = 0; verdict <= 2; verdict++) {
                most = Math.max(most, Integer.bitCount(pairsOf(passes[o], verdict) & fit));
            }
            if (most < least) {
                least = most;
                best = o;
            }
        }
        return best;
    }

    private static void ringsOutNumbers() {
        Due.sentence("RINGS OUT with T (1 .. 60), n (1 .. 60), m (1 .. n), a (0 .. 9999): the place; NONE; RANGE.");
        QuietCut q = new QuietCut();
        int[][] wrong = {{0, 1, 1, 0}, {61, 1, 1, 0}, {-1, 1, 1, 0}, {1, 0, 1, 0}, {1, 0, 0, 0}, {1, 61, 1, 0}, {1, 61, 61, 0}, {1, -1, -1, 0}, {1, 5, 0, 0}, {1, 5, 6, 0},
            {1, 5, -1, 0}, {1, 60, 61, 0}, {1, 1, 1, -1}, {1, 1, 1, 10000}, {Due.MIN, 1, 1, 0}, {Due.MAX, 1, 1, 0}, {1, Due.MIN, 1, 0}, {1, Due.MAX, 1, 0},
            {1, 5, Due.MIN, 0}, {1, 5, Due.MAX, 0}, {1, 1, 1, Due.MIN}, {1, 1, 1, Due.MAX}};
        int[][] fine = {{1, 1, 1, 0}, {60, 1, 1, 0}, {1, 60, 1, 0}, {1, 60, 60, 0}, {1, 1, 1, 9999}, {60, 60, 60, 9999}};
        for (int[] call : wrong) {
            Due.due("no SOUND, ringsOut", q.ringsOut(call[0], call[1], call[2], call[3]), Due.RANGE);
        }
        for (int[] call : fine) {
            Due.due("no SOUND, ringsOut", q.ringsOut(call[0], call[1], call[2], call[3]), Due.NONE);
        }
        Due.sound(q, "9999 -9999 ".repeat(75));
        Due.due("count(6)", q.count(6), 150);
        for (int[] call : wrong) {
            Due.due("ringsOut", q.ringsOut(call[0], call[1], call[2], call[3]), Due.RANGE);
        }
        // By 1 each CHANGE is 19998; by 60 each is 0.
        int[] places = {1, Due.NONE, 1, 60, 1, Due.NONE};
        for (int i = 0; i < fine.length; i++) {
            Due.due("ringsOut", q.ringsOut(fine[i][0], fine[i][1], fine[i][2], fine[i][3]), places[i]);
        }
        Due.due("by 59", q.ringsOut(59, 60, 60, 9999), 118);
        Due.due("by 59", q.ringsOut(59, 60, 1, 0), 59);
    }

    private static void ringsOutPlaces() {
        Due.sentence("CHANGE at place i (T or above): what the number differs from that T ahead (without its sign).");
        for (int t : new int[] {1, 2, 59, 60}) {
            QuietCut q = new QuietCut();
            Due.sound(q, "3 ".repeat(t));
            Due.due(t + " numbers have no CHANGE", q.ringsOut(t, 1, 1, 0), Due.NONE);
            Due.sound(q, "3 ".repeat(t) + "8");
            Due.due("a CHANGE of 5 at " + t, q.ringsOut(t, 1, 1, 4), t);
            Due.due("not above 5", q.ringsOut(t, 1, 1, 5), Due.NONE);
            Due.sound(q, "3 ".repeat(t) + "-2");
            Due.due("a CHANGE of 5 down", q.ringsOut(t, 1, 1, 4), t);
            Due.due("not above 5", q.ringsOut(t, 1, 1, 5), Due.NONE);
            Due.sound(q, "3 ".repeat(t) + "3");
            Due.due("none", q.ringsOut(t, 1, 1, 0), Due.NONE);
        }
        Due.sentence("the first place at which of the CHANGES of the n latest places (this one too; of those that there are) m or more are above a");
        // CHANGES by 1 at a first place and at one so far apart (a step up each), nowhere else; 1 is the first there is.
        for (int first = 1; first <= 10; first += 9) {
            for (int apart = 1; apart <= 61; apart++) {
                QuietCut q = new QuietCut();
                Due.sound(q, "0 ".repeat(first) + "1 ".repeat(apart) + "2 ".repeat(20));
                for (int n = Math.max(2, apart - 1); n <= Math.min(60, apart + 2); n++) {
                    Due.due("two of " + n + ", " + apart + " apart", q.ringsOut(1, n, 2, 0), n > apart ? first + apart : Due.NONE);
                }
                Due.due("one", q.ringsOut(1, Math.min(60, apart), 1, 0), first);
            }
        }
        // Of those that there are: 150 numbers, each a step up; m of them are there first at place T + m - 1.
        StringBuilder up = new StringBuilder();
        for (int i = 0; i < 150; i++) {
            up.append(i * 60).append(' ');
        }
        QuietCut q = new QuietCut();
        Due.sound(q, up.toString());
        for (int t : new int[] {1, 7, 60}) {
            for (int m = 1; m <= 60; m++) {
                Due.due("m " + m + " by " + t, q.ringsOut(t, 60, m, 0), t + m - 1);
            }
        }
        Due.sound(q, "0 ".repeat(149) + "5");
        Due.due("the last place of all", q.ringsOut(1, 1, 1, 4), 149);
        Due.due("the last place of all", q.ringsOut(60, 60, 1, 4), 149);
        Due.due("two are not there", q.ringsOut(60, 60, 2, 4), Due.NONE);
        Due.sound(q, "5 " + "0 ".repeat(149));
        Due.due("the first CHANGE", q.ringsOut(60, 1, 1, 4), 60);
    }

    private static void forced() {
        Due.sentence("1 if the SOUND is FORCED by T (1 .. 60), 0 if not; NONE: it has not more than T numbers; RANGE.");
        QuietCut q = new QuietCut();
        for (int t : new int[] {0, 61, -1, Due.MIN, Due.MAX}) {
            Due.due("no SOUND, forced(" + t + ")", q.forced(t), Due.RANGE);
        }
        Due.due("no SOUND", q.forced(1), Due.NONE);
        Due.due("no SOUND", q.forced(60), Due.NONE);
        for (int many : new int[] {1, 2, 59, 60, 61, 62, 150}) {
            Due.sound(q, "7 ".repeat(many));
            for (int t : new int[] {1, 2, 58, 59, 60}) {
                Due.due(many + " numbers, forced(" + t + ")", q.forced(t), many > t ? 1 : Due.NONE);
            }
            Due.due("forced(0)", q.forced(0), Due.RANGE);
            Due.due("forced(61)", q.forced(61), Due.RANGE);
        }
        Due.sentence("FORCED: the sum of all CHANGES is not above half of the sum of the numbers from place T on (each without its sign).");
        Object[][] sounds = {{"6 4", 1, 1}, {"7 4", 1, 0}, {"2 4", 1, 1}, {"1 4", 1, 0}, {"8 5", 1, 0}, {"7 5", 1, 1}, {"-6 -4", 1, 1}, {"-7 -4", 1, 0}, {"2 -4", 1, 0}, {"0 0", 1, 1},
            {"1 0", 1, 0}, {"0 1", 1, 0}, {"5 9 5 9", 2, 1}, {"5 9 5 0", 2, 0}, {"5 9 8 3 10 9", 3, 1}, {"5 9 8 7 10 0", 3, 0}, {"5 9 8 7 10 1", 3, 0}, {"5 9 8 7 10 2", 3, 1},
            {"9999 -9999", 1, 0}, {"9000 4500 9000 9000 9000", 1, 1}};
        for (Object[] one : sounds) {
            Due.sound(q = new QuietCut(), (String) one[0]);
            Due.due("forced(" + one[1] + ") of " + one[0], q.forced((Integer) one[1]), (Integer) one[2]);
        }
        Due.sound(q, "9999 ".repeat(60) + "-9999 ".repeat(60) + "9999 ".repeat(30));
        Due.due("the greatest CHANGES", q.forced(60), 0);
        Due.due("by 1 they are few", q.forced(1), 1);
    }

    private static void count() {
        Due.sentence("What 0: WEAR, 1: PASSES CUT, 2: JOBS, 3: OFFERS, 4: HEARD, 5: puttings RIGHT, 6: numbers of the SOUND, 7: bytes of THE TAPE. NONE for others.");
        QuietCut q = Due.shopOf(Due.STILL + "wear 5;");
        countIs(q, 0, 0, 0, 0, 0, 0, 0, 0);
        q.cut(0, 1, 1, 1, 0, 0);
        q.attempt(0, 1, 1, 1, 0, 0);
        countIs(q, 20, 1, 0, 0, 0, 0, 0, 0);
        q.job(0, 1, 1, 1);
        q.job(0, 1, 1, 1);
        q.offer(0, 1, 1, 1);
        q.offer(0, 1, 1, 1);
        q.offer(0, 1, 1, 1);
        for (int i = 0; i < 4; i++) {
            q.heard(0, 0, 0);
        }
        for (int i = 0; i < 5; i++) {
            q.right(1, 0, 0);
        }
        Due.sound(q, "1 2 3 4 5 6");
        Due.feed(q, "1234567");
        countIs(q, 20, 1, 2, 3, 4, 5, 6, 7);
        q.change();
        countIs(q, 0, 1, 2, 3, 4, 5, 6, 7);
        q.piece(100);
        countIs(q, 0, 0, 2, 3, 4, 5, 6, 7);
        q.shop();
        countIs(q, 0, 0, 2, 3, 4, 5, 6, 0);
        q.sound();
        countIs(q, 0, 0, 2, 3, 4, 5, 6, 0);
        q.shop();
        countIs(q, 0, 0, 0, 0, 0, 0, 6, 0);
    }

    private static void countIs(QuietCut q, int... want) {
        for (int what = -2; what <= 10; what++) {
            Due.due("count(" + what + ")", q.count(what), what >= 0 && what < 8 ? want[what] : Due.NONE);
        }
        Due.due("count(MIN)", q.count(Due.MIN), Due.NONE);
        Due.due("count(MAX)", q.count(Due.MAX), Due.NONE);
    }

    private static void shopForgets() {
        Due.sentence("The PIECE is fresh then, WEAR 0, no PASS was CUT; JOBS, OFFERS, HEARD are none (the latest STEP of telling is 0).");
        QuietCut q = Due.shopOf(Due.STILL + "wear 1;");
        q.cut(0, 1, 1, 1, 0, 0);
        for (int i = 0; i < 30; i++) {
            q.job(0, 1, 1, 1);
            q.offer(0, 1, 1, 1);
            q.heard(i, 0, 0);
        }
        for (int i = 0; i < 20; i++) {
            q.right(999, 0, 2);
        }
        Due.due("all that was HEARD", q.fit(999), 0);
        Due.due("a SHOP", Due.shop(q, Due.STILL), 5);
        for (int what = 0; what <= 5; what++) {
            Due.due("count(" + what + ")", q.count(what), 0);
        }
        for (int i = 0; i < 8; i++) {
            Due.due("height", q.height(i / 4, i % 4), 1000);
            Due.due("left", q.left(i / 4, i % 4, 0), Due.NONE);
        }
        Due.due("nothing is known of before", q.fit(999), 1);
        Due.due("no OFFER of before", q.heard(0, 0, 0), Due.RANGE);
        Due.due("next()", q.next(), Due.NONE);
        Due.due("order()", q.order(0, 0), Due.STATE);
        Due.due("ordered(0)", q.ordered(0), Due.NONE);
        Due.due("offer", q.offer(0, 1, 1, 1), 0);
        Due.due("no HEARD of before", q.right(1, 0, 0), Due.RANGE);
        Due.due("the latest STEP is 0", q.heard(0, 0, 0), 0);
        Due.due("puttings RIGHT begin anew", q.right(1, 0, 0), 1);
        Due.due("job", q.job(0, 1, 1, 1), 0);
    }
}
