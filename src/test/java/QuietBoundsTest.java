import java.util.ArrayList;
import java.util.List;

/** The bounds of what is quiet: SURE, DEEPEST, BEST SPEED, PLAN, BEST TEETH, JOBS, ORDER, UNTIL. */
public final class QuietBoundsTest {
    /** Text, speed, feed, turns, and the pairs (bit 4 times stiffness and damping above their first) that are QUIET: one alone, or all but one. */
    static final Object[][] PAIRS = {
        {"sectors 6;rings 1;mass 2;stiff 0 3;damp 4 7;limit 71;mark 5;force h%7;", 9, 4, 2, 0x0001},
        {"sectors 6;rings 1;mass 2;stiff 2 5;damp 0 3;limit 34;mark 11;force h*3/2;", 1, 15, 3, 0x0002},
        {"sectors 4;rings 1;mass 7;stiff 1 4;damp 0 3;limit 94;mark 9;force h*2;", 4, 16, 2, 0x0004},
        {"sectors 5;rings 1;mass 9;stiff 1 4;damp 1 4;limit 69;mark 1;force h;", 9, 13, 2, 0x0008},
        {"sectors 6;rings 1;mass 2;stiff 0 3;damp 4 7;limit 71;mark 5;force h%7;", 7, 9, 2, 0x0010},
        {"sectors 5;rings 1;mass 1;stiff 0 3;damp 0 3;limit 44;mark 16;force h*3/2;", 5, 13, 2, 0x0020},
        {"sectors 5;rings 1;mass 7;stiff 0 3;damp 1 4;limit 14;mark 6;force h*2;", 6, 6, 3, 0x0040},
        {"sectors 6;rings 1;mass 8;stiff 6 9;damp 0 3;limit 93;mark 0;force h-3;", 4, 12, 3, 0x0080},
        {"sectors 4;rings 1;mass 2;stiff 1 4;damp 2 5;limit 14;mark 17;force h*2;", 3, 8, 3, 0x0100},
        {"sectors 5;rings 1;mass 3;stiff 3 6;damp 3 6;limit 40;mark 1;force h-3;", 8, 13, 1, 0x0200},
        {"sectors 6;rings 1;mass 9;stiff 3 6;damp 0 3;limit 15;mark 4;force h*2;", 9, 15, 1, 0x0400},
        {"sectors 6;rings 1;mass 9;stiff 5 8;damp 1 4;limit 46;mark 1;force -h;", 7, 11, 1, 0x0800},
        {"sectors 6;rings 1;mass 2;stiff 1 4;damp 2 5;limit 44;mark 1;force 5;", 3, 8, 1, 0x1000},
        {"sectors 6;rings 1;mass 2;stiff 0 3;damp 1 4;limit 77;mark 17;force h*2;", 5, 18, 3, 0x2000},
        {"sectors 4;rings 1;mass 6;stiff 0 3;damp 1 4;limit 68;mark 0;force h*2;", 8, 4, 3, 0x4000},
        {"sectors 6;rings 1;mass 9;stiff 5 8;damp 1 4;limit 46;mark 1;force -h;", 2, 12, 2, 0x8000},
        {"sectors 6;rings 1;mass 4;stiff 4 7;damp 1 4;limit 22;mark 16;force h*2;", 1, 10, 3, 0x7fff},
        {"sectors 4;rings 1;mass 7;stiff 6 9;damp 3 6;limit 41;mark 1;force h/2;", 6, 20, 2, 0xbfff},
        {"sectors 5;rings 1;mass 4;stiff 6 9;damp 2 5;limit 49;mark 0;force h/2;", 8, 11, 2, 0xdfff},
        {"sectors 6;rings 1;mass 4;stiff 4 7;damp 1 4;limit 22;mark 16;force h*2;", 2, 4, 3, 0xefff},
        {"sectors 5;rings 1;mass 3;stiff 0 3;damp 4 7;limit 35;mark 21;force h/2;", 6, 11, 2, 0xf7ff},
        {"sectors 4;rings 1;mass 5;stiff 3 6;damp 2 5;limit 49;mark 1;force -h;", 8, 15, 3, 0xfbff},
        {"sectors 5;rings 1;mass 6;stiff 6 9;damp 1 4;limit 17;mark 1;force -h;", 6, 14, 3, 0xfdff},
        {"sectors 6;rings 1;mass 8;stiff 7 10;damp 0 3;limit 33;mark 6;force -h;", 8, 18, 2, 0xfeff},
        {"sectors 4;rings 1;mass 3;stiff 1 4;damp 3 6;limit 48;mark 17;force h/2;", 3, 11, 3, 0xff7f},
        {"sectors 5;rings 1;mass 5;stiff 0 3;damp 2 5;limit 43;mark 5;force 5;", 7, 5, 1, 0xffbf},
        {"sectors 5;rings 1;mass 5;stiff 2 5;damp 0 3;limit 59;mark 8;force h*h/40;", 4, 16, 1, 0xffdf},
        {"sectors 6;rings 1;mass 4;stiff 2 5;damp 0 3;limit 58;mark 5;force h/3;", 9, 20, 3, 0xffef},
        {"sectors 5;rings 1;mass 9;stiff 2 5;damp 1 4;limit 34;mark 12;force h;", 9, 11, 3, 0xfff7},
        {"sectors 6;rings 1;mass 4;stiff 2 5;damp 1 4;limit 83;mark 17;force h*3/2;", 8, 18, 3, 0xfffb},
        {"sectors 5;rings 1;mass 9;stiff 1 4;damp 2 5;limit 18;mark 11;force h/2;", 7, 19, 2, 0xfffd},
        {"sectors 6;rings 1;mass 4;stiff 4 7;damp 1 4;limit 22;mark 16;force h*2;", 9, 14, 2, 0xfffe}};

    // Only a chip for which the force is 0 leaves the tool where it is: any other shakes.
    private static final String SHAKY = "sectors 4;rings 1;mass 1;limit 1;turns 1;force ";
    // Four chips a pass, worn by 250 each: w/1000 is how many passes were cut ahead of this one.
    private static final String WORN = "sectors 4;rings 2;mass 1;limit 1;turns 1;wear 250;force ";

    public static void main(String[] args) {
        sure();
        deepest();
        deepestThatCanBe();
        best();
        planDepth();
        planRows();
        planTies();
        plannedCall();
        teethNumbers();
        teethChosen();
        jobs();
        order();
        orderHolds();
        orderWaves();
        orderedCall();
        until();
        Due.finish("QuietBoundsTest");
    }

    /** The pairs of the spans with which an attempt is QUIET. */
    static int quietPairs(QuietCut q, int speed, int feed, int turns) {
        int pairs = 0;
        for (int k = q.told(3); k <= q.told(4); k++) {
            for (int d = q.told(5); d <= q.told(6); d++) {
                pairs |= q.attempt(0, speed, feed, turns, k, d) == 0 ? 1 << 4 * (k - q.told(3)) + d - q.told(5) : 0;
            }
        }
        return pairs;
    }

    private static void sure() {
        Due.sentence("for all stiffness and damping of the spans (whole numbers from the first N to the second): 1 QUIET for all, 0 for none, 2 else.");
        for (Object[] one : PAIRS) {
            int speed = (Integer) one[1], feed = (Integer) one[2], turns = (Integer) one[3], pairs = (Integer) one[4];
            QuietCut q = Due.shopOf(one[0] + "turns " + turns + ";");
            Due.due("the pairs that are QUIET", quietPairs(q, speed, feed, turns), pairs);
            Due.due("some", q.sure(0, speed, feed, turns), 2);
            boolean single = Integer.bitCount(pairs) == 1;
            int odd = Integer.numberOfTrailingZeros(single ? pairs : ~pairs);
            int k = q.told(3) + odd / 4, d = q.told(5) + odd % 4;
            Due.due("that pair alone", Due.shopOf(narrowed((String) one[0], k, k, d, d)).sure(0, speed, feed, turns), single ? 1 : 0);
            // A span that ends ahead of that pair's stiffness, or its damping, or begins behind it, has it not.
            int all = single ? 0 : 1;
            if (odd / 4 > 0) {
                Due.due("below it", Due.shopOf(narrowed((String) one[0], q.told(3), k - 1, q.told(5), q.told(6))).sure(0, speed, feed, turns), all);
            }
            if (odd / 4 < 3) {
                Due.due("above it", Due.shopOf(narrowed((String) one[0], k + 1, q.told(4), q.told(5), q.told(6))).sure(0, speed, feed, turns), all);
            }
            if (odd % 4 > 0) {
                Due.due("below it", Due.shopOf(narrowed((String) one[0], q.told(3), q.told(4), q.told(5), d - 1)).sure(0, speed, feed, turns), all);
            }
            if (odd % 4 < 3) {
                Due.due("above it", Due.shopOf(narrowed((String) one[0], q.told(3), q.told(4), d + 1, q.told(6))).sure(0, speed, feed, turns), all);
            }
            int deepest = q.deepest(0, speed);
            Due.holds("a DEEPEST is QUIET for all", deepest == Due.NONE || quietPairs(q, speed, deepest, turns) == 0xffff);
            Due.holds("some pairs are not enough for DEEPEST", deepest != feed);
        }
        Due.sentence("SURE: 0 .. 2; RANGE; STATE.");
        QuietCut q = Due.shopOf(Due.STILL);
        q.piece(100);
        Due.due("all", q.sure(0, 1, 9, 11), 1);
        Due.due("STATE", q.sure(0, 1, 10, 10), Due.STATE);
        Due.due("RANGE is told first", q.sure(0, 10, 10, 10), Due.RANGE);
        Due.due("RANGE is told first", q.sure(0, 1, 10, 13), Due.RANGE);
    }

    private static String narrowed(String text, int k1, int k2, int d1, int d2) {
        return text.replaceAll("stiff \\d+ \\d+;damp \\d+ \\d+;", "stiff " + k1 + " " + k2 + ";damp " + d1 + " " + d2 + ";");
    }

    private static void deepest() {
        Due.sentence("DEEPEST of a RING and SPEED: the greatest FEED with which it is QUIET for all, with turns TURNS.");
        for (int feed = 0; feed <= 21; feed++) {
            int want = feed >= 1 && feed <= 20 ? feed : Due.NONE;
            for (int speed = 1; speed <= 9; speed += 4) {
                Due.due("only FEED " + feed, Due.shopOf(SHAKY + "(h-" + feed + ")*9;").deepest(0, speed), want);
                Due.due("FEEDS below " + feed, Due.shopOf(SHAKY + (feed == 0 ? "9;" : "h/" + feed + "*9;")).deepest(0, speed), feed == 0 || feed == 1 ? Due.NONE : feed - 1);
                Due.due("FEED 3 and " + feed, Due.shopOf(SHAKY + "(h-3)*(h-" + feed + ")*9;").deepest(0, speed), feed > 20 ? 3 : Math.max(3, feed));
            }
        }
        // The ring is told apart: only ring 1 has a place that is too low.
        QuietCut q = Due.shopOf(Due.STILL + "mark 0;");
        q.set(1, 0, 990);
        Due.due("ring 0", q.deepest(0, 1), 20);
        Due.due("ring 1", q.deepest(1, 1), 20);
        q.set(1, 0, 979);
        Due.due("ring 1", q.deepest(1, 1), Due.NONE);
        q.set(1, 0, 980);
        Due.due("ring 1: 20 alone", q.deepest(1, 1), 20);
    }

    private static void deepestThatCanBe() {
        Due.sentence("(A FEED with which it can't be is none.)");
        for (int turns = 1; turns <= 12; turns++) {
            QuietCut q = Due.shopOf("sectors 4;rings 1;force 0;turns " + turns + ";");
            q.piece(100);
            Due.due("turns " + turns, q.deepest(0, 1), Math.min(20, 99 / turns));
            q.set(0, 0, 120);
            Due.due("LEVEL 120", q.deepest(0, 1), Math.min(20, 119 / turns));
            q.set(0, 0, 121);
            Due.due("LEVEL 121", q.deepest(0, 1), Math.min(20, 120 / turns));
        }
        QuietCut q = Due.shopOf(Due.STILL);
        q.piece(100);
        q.cut(0, 1, 9, 11, 0, 0);
        Due.due("LEVEL 1", q.deepest(0, 9), Due.NONE);
        Due.due("RANGE all the same", q.deepest(0, 10), Due.RANGE);
        Due.due("the other ring", q.deepest(1, 9), 20);
    }

    private static void best() {
        Due.sentence("that whose DEEPEST over the TIME of a PASS of turns TURNS (by SPEED and sway alone) is greatest; then the least SPEED.");
        // Behind the text: BEST SPEED, then the DEEPEST of each SPEED.
        Object[][] texts = {
            {"sectors 6;rings 1;mass 4;stiff 0 0;damp 4 5;limit 7;mark 9;turns 1;force h-3;sway 2 8;", 1, 6, 7, 8, 9, 10, 6, 6, 6, 6},
            {"sectors 6;rings 1;mass 3;stiff 4 6;damp 2 4;limit 70;mark 5;turns 3;force h*3/2;", 1, 1, 2, 3, 4, 3, 4, 3, 4, 3},
            {"sectors 5;rings 1;mass 2;stiff 1 3;damp 0 0;limit 66;mark 9;turns 1;force -h;", 1, 1, 1, 1, 1, 1, 1, 1, 4, 9},
            {"sectors 6;rings 1;mass 9;stiff 5 5;damp 1 3;limit 75;mark 1;turns 3;force h*2;sway 1;", 1, 4, 4, 4, 4, 4, 4, 9, 4, 20},
            {"sectors 6;rings 1;mass 3;stiff 5 5;damp 1 3;limit 77;mark 1;turns 2;force -h;", 2, 2, 12, 18, 20, 19, 17, 19, 19, 19},
            {"sectors 5;rings 1;mass 1;stiff 1 1;damp 0 1;limit 18;mark 12;turns 3;force -h;", 2, -1, 1, 1, 2, 2, 3, -1, 1, 1},
            {"sectors 5;rings 1;mass 2;stiff 1 2;damp 0 1;limit 75;mark 11;turns 1;force h*2;sway 3 8;", 2, 2, 3, 1, 1, 2, 1, 3, 3, 6},
            {"sectors 5;rings 1;mass 1;stiff 2 3;damp 0 0;limit 43;mark 3;turns 1;force h*2;sway 0;", 3, -1, -1, 1, -1, 1, -1, -1, 1, 3},
            {"sectors 6;rings 1;mass 6;stiff 7 9;damp 0 1;limit 60;mark 2;turns 2;force h*3/2;sway 3;", 3, 3, 3, 6, 7, 7, 3, 3, 3, 12},
            {"sectors 5;rings 1;mass 2;stiff 4 6;damp 1 1;limit 59;mark 1;turns 2;force h*2;", 4, -1, -1, 1, 2, -1, 1, -1, 4, -1},
            {"sectors 5;rings 1;mass 3;stiff 3 4;damp 2 2;limit 54;mark 1;turns 2;force h*2;sway 3;", 5, 1, 2, 1, 1, 4, 1, 1, 1, 6},
            {"sectors 4;rings 1;mass 6;stiff 5 5;damp 1 2;limit 61;mark 0;turns 3;force h*2;", 6, 2, 4, 2, 2, 2, 15, 12, 20, 8},
            {"sectors 5;rings 1;mass 5;stiff 1 2;damp 1 3;limit 81;mark 14;turns 2;force h*2;sway 3;", 7, 3, 2, 3, 2, 2, 6, 10, 11, 12},
            {"sectors 5;rings 1;mass 6;stiff 2 4;damp 1 1;limit 93;mark 6;turns 1;force h*3/2;sway 3;", 8, 3, 3, 3, 3, 4, 6, 8, 11, 12},
            {"sectors 4;rings 1;mass 3;stiff 2 3;damp 1 2;limit 76;mark 0;turns 2;force 5;", 8, -1, -1, -1, -1, -1, -1, -1, 20, -1},
            {"sectors 6;rings 1;mass 6;stiff 4 4;damp 1 1;limit 19;mark 0;turns 3;force h*2;", 8, 2, 2, 2, 2, 2, 2, 2, 19, 20},
            {"sectors 6;rings 1;mass 2;stiff 1 2;damp 0 0;limit 74;mark 14;turns 1;force -h;", 9, 1, 1, 1, 1, 1, 1, 2, 4, 14},
            {"sectors 6;rings 1;mass 4;stiff 2 2;damp 0 0;limit 13;mark 3;turns 2;force 5;sway 2;", 9, -1, -1, -1, -1, -1, -1, -1, 2, 5}};
        for (Object[] one : texts) {
            QuietCut q = Due.shopOf((String) one[0]);
            Due.due("best(0) of " + one[0], q.best(0), (Integer) one[1]);
            for (int speed = 1; speed <= 9; speed++) {
                Due.due("deepest(0, " + speed + ") of " + one[0], q.deepest(0, speed), (Integer) one[1 + speed]);
            }
        }
        Due.sentence("BEST SPEED; NONE: no SPEED has a DEEPEST; RANGE.");
        Due.due("none", Due.shopOf(SHAKY + "9;").best(0), Due.NONE);
        for (int r : new int[] {-1, 1, Due.MIN, Due.MAX}) {
            Due.due("best(" + r + ")", Due.shopOf(SHAKY + "9;").best(r), Due.RANGE);
        }
    }

    private static void planDepth() {
        Due.sentence("PLAN of a depth (1 .. 400) on a RING");
        QuietCut q = Due.shopOf(Due.STILL);
        for (int depth : new int[] {1, 2, 399, 400}) {
            Due.due("plan of " + depth, q.plan(0, depth), (depth + 19) / 20 * 4);
        }
        for (int depth : new int[] {0, 401, -1, 500, 800, Due.MIN, Due.MAX}) {
            Due.due("plan of " + depth, q.plan(0, depth), Due.RANGE);
        }
        for (int r : new int[] {-1, 2, Due.MIN, Due.MAX}) {
            Due.due("plan on " + r, q.plan(r, 1), Due.RANGE);
        }
        Due.due("planned(0) is that of 400", q.planned(0), 20);
        Due.due("the last ring", q.plan(1, 1), 4);
        Due.sentence("PLAN: its TIME; NONE: there is none; RANGE.");
        Due.due("none is QUIET", Due.shopOf(SHAKY + "9;").plan(0, 20), Due.NONE);
        Due.due("none is QUIET, and no such depth", Due.shopOf(SHAKY + "9;").plan(0, 401), Due.RANGE);
    }

    private static void planRows() {
        Due.sentence("a row whose FEEDS times turns make the depth");
        for (int turns = 1; turns <= 12; turns++) {
            QuietCut q = Due.shopOf("sectors 4;rings 1;force 0;turns " + turns + ";");
            for (int depth : new int[] {1, turns - 1, turns, turns + 1, 20 * turns, 20 * turns + 1, 21 * turns, 396, 400}) {
                if (depth >= 1 && depth <= 400) {
                    int feeds = depth / turns;
                    Due.due("plan of " + depth + " by " + turns, q.plan(0, depth), depth % turns != 0 ? Due.NONE : (feeds + 19) / 20 * 4 * turns);
                }
            }
        }
        // Only FEEDS of 3 and 9 are QUIET.
        QuietCut q = Due.shopOf(SHAKY + "(h-3)*(h-9)*9;");
        for (int depth = 1; depth <= 30; depth++) {
            Due.due("plan of " + depth, q.plan(0, depth), depth % 3 != 0 ? Due.NONE : (depth / 9 + depth % 9 / 3) * 4);
        }
        Due.due("planned(0) of 30", q.planned(0), 4);
        int[] row = {23, 29, 29, 29};
        for (int i = 0; i < 4; i++) {
            Due.due("planned(" + (10 + i) + ") of 30", q.planned(10 + i), row[i]);
        }
        // Only a FEED of 1: the longest row there is.
        q = Due.shopOf(SHAKY + "(h-1)*9;");
        Due.due("plan of 400 by 1", q.plan(0, 400), 1600);
        Due.due("planned(0)", q.planned(0), 400);
        for (int i = 0; i < 400; i++) {
            Due.due("planned(" + (10 + i) + ")", q.planned(10 + i), 21);
        }
        Due.due("planned(410)", q.planned(410), Due.NONE);
        Due.due("planned(9)", q.planned(9), Due.NONE);
        Due.due("plan of 1", q.plan(0, 1), 4);
        Due.due("planned(0)", q.planned(0), 1);
        Due.due("planned(11)", q.planned(11), Due.NONE);
        Due.sentence("that are QUIET for all now (each as if it were the first)");
        q = Due.shopOf("sectors 4;rings 1;force 0;turns 2;");
        q.piece(100);
        Due.due("400 off a height of 100", q.plan(0, 400), 80);
        q.cut(0, 1, 9, 10, 0, 0);
        // LEVEL 10: FEEDS of 4 and less can be.
        Due.due("LEVEL 10", q.plan(0, 8), 8);
        Due.due("LEVEL 10", q.plan(0, 10), 16);
        Due.due("planned(10): 20 and 1", q.planned(10), 21);
        Due.due("planned(11): 20 and 4", q.planned(11), 24);
        q.cut(0, 1, 4, 2, 0, 0);
        Due.due("LEVEL 2", q.plan(0, 2), Due.NONE);
        // QUIET now, by the WEAR as it is.
        q = Due.shopOf(WORN + "w/1000*9;");
        Due.due("worn by none", q.plan(0, 20), 4);
        q.cut(0, 1, 1, 1, 0, 0);
        Due.due("worn", q.plan(0, 20), Due.NONE);
        q.change();
        Due.due("a new tool", q.plan(0, 20), 4);
    }

    private static void planTies() {
        Due.sentence("the least TIME (by SPEED and sway); then the fewest; then the least row (each as 20 times SPEED, and FEED)");
        // FEED 2 is not pushed at all; the others come back to x 0 in 3 steps, so at SPEED 3 they are QUIET.
        QuietCut q = Due.shopOf("sectors 4;rings 1;mass 1;stiff 3 3;damp 0 0;limit 9999;mark 0;turns 1;force h-2;");
        rowIs(q, 6, 12, 66);
        rowIs(q, 4, 8, 22, 22);
        rowIs(q, 22, 16, 22, 80);
        rowIs(q, 23, 20, 22, 22, 79);
        rowIs(q, 20, 12, 80);
        rowIs(q, 1, 12, 61);
        // With a sway of 2 all come back at SPEED 1; TIME counts the sway.
        q = Due.shopOf("sectors 4;rings 1;mass 1;stiff 3 3;damp 0 0;limit 9999;mark 0;turns 1;force h-2;sway 2;");
        rowIs(q, 20, 12, 40);
        rowIs(q, 21, 24, 21, 40);
        rowIs(q, 41, 36, 21, 40, 40);
        // 4 sectors of 2 turns: the sway goes on from turn to turn, and begins anew with each pass.
        int[][] sways = {{1, 2, 3}, {9, 0, 0, 0, 0, 1}, {0, 5}, {7}};
        for (int[] sway : sways) {
            StringBuilder text = new StringBuilder("sectors 5;rings 1;force 0;turns 2;sway");
            int time = 10;
            for (int i = 0; i < 10; i++) {
                text.append(i < sway.length ? " " + sway[i] : "");
                time += sway[i % sway.length];
            }
            rowIs(Due.shopOf(text + ";"), 40, time, 40);
            rowIs(Due.shopOf(text + ";"), 42, 2 * time, 21, 40);
        }
        // Each sector has 12 steps at SPEED 9 alone, which take x back to 0 with K 3 (turn 0) and K 2 (turn 1).
        q = Due.shopOf("sectors 4;rings 1;mass 1;stiff 0 0;damp 0 0;limit 9999;mark 0;turns 2;sway 3;force 5;wall l-996;");
        rowIs(q, 2, 96, 181);
        rowIs(q, 4, 192, 181, 181);
        // The fewest, be the FEEDS of the longer row less or greater: 4, 5 is as quick as 7, 1, 1; 12, 16 as four with a deeper one.
        rowIs(Due.shopOf("sectors 7;rings 1;mass 1;stiff 1 1;damp 1 1;limit 99;mark 0;turns 1;force h*2/3;wall (1000-l)/4;"), 9, 28, 44, 45);
        rowIs(Due.shopOf("sectors 6;rings 1;mass 3;stiff 6 6;damp 0 0;limit 99;mark 0;turns 1;force h/2;wall (1000-l)/4;"), 28, 36, 72, 76);
        // A FEED that is QUIET at no SPEED makes no row, though a row less by one PASS would take the same TIME.
        rowIs(Due.shopOf("sectors 4;rings 1;mass 1;stiff 2 2;damp 1 1;limit 12;mark 1;turns 1;force (h-3)*(h-7);sway 2;"), 14, 24, 27, 27);
        rowIs(Due.shopOf("sectors 5;rings 1;mass 3;stiff 5 5;damp 1 1;limit 1;mark 1;turns 1;force (h-3)*(h-7);wall (1000-l)/2;"), 8, 10, 23, 25);
        rowIs(Due.shopOf("sectors 5;rings 1;mass 4;stiff 7 7;damp 3 3;limit 7;mark 3;turns 1;force h-3;wall (1000-l)/4;"), 31, 10, 33, 38);
        rowIs(Due.shopOf("sectors 4;rings 1;mass 2;stiff 0 0;damp 0 0;limit 27;mark 2;turns 1;force h*2;wall (1000-l)/3;sway 1;"), 10, 28, 21, 89);
        rowIs(Due.shopOf("sectors 5;rings 1;mass 3;stiff 0 0;damp 1 1;limit 12;mark 2;turns 1;force h/2;wall (1000-l)/3;"), 51, 25, 31, 31, 31, 58);
        // FEED 1 to 20 at SPEED 1: the least row begins with the least.
        q = Due.shopOf(Due.STILL);
        rowIs(q, 39, 8, 39, 40);
        rowIs(q, 40, 8, 40, 40);
        rowIs(q, 41, 12, 21, 40, 40);
        // FEEDS of 4 and 6 alone: 12 is 6, 6 and not 4, 4, 4; 14 is 4, 4, 6 in three.
        q = Due.shopOf(SHAKY + "(h-4)*(h-6)*9;");
        rowIs(q, 12, 8, 26, 26);
        rowIs(q, 14, 12, 24, 24, 26);
        rowIs(q, 16, 12, 24, 26, 26);
    }

    private static void rowIs(QuietCut q, int depth, int time, int... row) {
        Due.due("plan of " + depth, q.plan(0, depth), time);
        Due.due("planned(0) of " + depth, q.planned(0), row.length);
        for (int i = 0; i < row.length; i++) {
            Due.due("planned(" + (10 + i) + ") of " + depth, q.planned(10 + i), row[i]);
        }
        Due.due("none behind the row of " + depth, q.planned(10 + row.length), Due.NONE);
    }

    private static void plannedCall() {
        Due.sentence("Of the latest plan() that told a TIME, what 0: how many PASSES; 10 + i: the i-th, as 20 times SPEED, and FEED. NONE when there is none such.");
        QuietCut q = Due.shopOf(Due.STILL);
        int[] none = {0, 1, 9, 10, 11, 409, 410, -1, -10, Due.MIN, Due.MAX};
        for (int what : none) {
            Due.due("ahead of any, planned(" + what + ")", q.planned(what), Due.NONE);
        }
        q.plan(0, 401);
        Due.due("RANGE told none", q.planned(0), Due.NONE);
        q.plan(0, 5);
        for (int what : none) {
            Due.due("planned(" + what + ")", q.planned(what), what == 0 ? 1 : what == 10 ? 25 : Due.NONE);
        }
        q.plan(0, 0);
        q.plan(2, 7);
        q.piece(100);
        q.cut(0, 1, 9, 11, 0, 0);
        Due.due("one that can't be", q.plan(0, 7), Due.NONE);
        Due.due("the latest with a TIME stays", q.planned(10), 25);
        Due.due("another SHOP", Due.shop(q, ""), 0);
        Due.due("it stays", q.planned(10), 25);
    }

    private static void teethNumbers() {
        Due.sentence("BEST TEETH of so many (1 .. 4) from a list (bits, as many at least, 6 at most): the set, as bits; NONE: none has a DEEPEST; RANGE. (The teeth stay.)");
        QuietCut q = Due.shopOf(Due.STILL + "teeth 7 3;");
        for (int many = -1; many <= 6; many++) {
            for (int listed = 0; listed <= 8; listed++) {
                int low = (1 << listed) - 1;
                int high = low << 16 - listed;
                boolean may = many >= 1 && many <= 4 && listed >= many && listed <= 6;
                Due.due(many + " of the least " + listed, q.bestTeeth(0, 1, many, low), may ? (1 << many) - 1 : Due.RANGE);
                Due.due(many + " of the greatest " + listed, q.bestTeeth(0, 1, many, high), may ? (1 << many) - 1 << 16 - listed : Due.RANGE);
            }
        }
        for (int list : new int[] {0x10000, 0x10001, 0x18000, Due.MIN, -1, Due.MIN | 1, 0x40000000}) {
            Due.due("beyond 15: " + list, q.bestTeeth(0, 1, 1, list), Due.RANGE);
        }
        Due.due("so many MIN", q.bestTeeth(0, 1, Due.MIN, 1), Due.RANGE);
        Due.due("so many MAX", q.bestTeeth(0, 1, Due.MAX, 1), Due.RANGE);
        Due.due("the last ring and speed", q.bestTeeth(1, 9, 4, 0xF000), 0xF000);
        Due.due("told(10)", q.told(10), 2);
        Due.due("told(20)", q.told(20) * 10 + q.told(21), 73);
        Due.due("told(22)", q.told(22), Due.NONE);
        Due.due("none", Due.shopOf(SHAKY + "9;").bestTeeth(0, 1, 4, 0x3F), Due.NONE);
        Due.due("none, and too many", Due.shopOf(SHAKY + "9;").bestTeeth(0, 1, 4, 0x7F), Due.RANGE);
        Due.due("a DEEPEST of 1", Due.shopOf(SHAKY + "(h-1)*9;").bestTeeth(0, 1, 1, 0x3F), 1);
        Due.due("a DEEPEST of 1", Due.shopOf(SHAKY + "(h-1)*9;").bestTeeth(0, 9, 4, 0x8421 | 2), 0x0423);
        Due.due("a DEEPEST of 20", Due.shopOf(SHAKY + "(h-20)*9;").bestTeeth(0, 9, 1, 0x8000), 0x8000);
        // What was cut before, by the teeth that stay: the second of 7, 3 at SECTOR 0.
        q.cut(0, 1, 1, 1, 0, 0);
        Due.due("7 modulo 4 is 3: the first tooth cuts all", q.left(0, 3, 2) + q.left(0, 0, 2), 0);
    }

    private static void teethChosen() {
        Due.sentence("set in rising order in place of the teeth: the greatest DEEPEST of a RING and SPEED; then the least set (bits)");
        String[] texts = {"sectors 6;rings 1;mass 8;stiff 5 6;damp 2 3;limit 99;mark 7;turns 2;force h*2;", "sectors 8;rings 1;mass 8;stiff 3 3;damp 1 2;limit 99;mark 3;turns 2;force h;",
            "sectors 8;rings 1;mass 5;stiff 2 2;damp 1 1;limit 99;mark 5;turns 2;force h*2;", "sectors 5;rings 1;mass 9;stiff 4 4;damp 1 1;limit 60;mark 9;turns 1;force h+w%5;wear h;"};
        int[] lists = {0x802D, 0x2D, 0x8421, 0x3F};
        for (String text : texts) {
            QuietCut q = Due.shopOf(text + "teeth 2 1;");
            int own = q.deepest(0, 2);
            for (int list : lists) {
                for (int many = 1; many <= 4; many++) {
                    Due.due(many + " of " + list + ", " + text, q.bestTeeth(0, 2, many, list), bestSet(text, many, list));
                }
            }
            Due.due("the teeth stay", q.deepest(0, 2), own);
        }
    }

    /** Each set is told as the teeth of a SHOP of its own, in rising order. */
    private static int bestSet(String text, int many, int list) {
        int best = Due.NONE;
        int most = 0;
        for (int set = 1; set < 65536; set++) {
            if ((set & list) != set || Integer.bitCount(set) != many) {
                continue;
            }
            StringBuilder teeth = new StringBuilder("teeth");
            for (int n = 0; n < 16; n++) {
                teeth.append((set >> n & 1) == 1 ? " " + n : "");
            }
            int deepest = Due.shopOf(text + teeth + ";").deepest(0, 2);
            if (deepest > most) {
                most = deepest;
                best = set;
            }
        }
        return best;
    }

    private static void jobs() {
        Due.sentence("JOBS, at most 5, numbered from 0: PASSES.");
        QuietCut q = Due.shopOf(Due.STILL);
        for (int i = 0; i < 5; i++) {
            Due.due("count(2)", q.count(2), i);
            Due.due("RANGE", q.job(0, 1, 21, 1), Due.RANGE);
            Due.due("job no. " + i, q.job(i % 2, 1 + i, 20, 12), i);
        }
        Due.due("the sixth", q.job(0, 1, 1, 1), Due.FULL);
        Due.due("the sixth, none", q.job(0, 0, 1, 1), Due.RANGE);
        Due.due("count(2)", q.count(2), 5);
        q.piece(100);
        Due.due("a PIECE leaves them", q.count(2), 5);
        Due.due("a new SHOP", Due.shop(q, ""), 0);
        Due.due("count(2)", q.count(2), 0);
        Due.due("from 0 on", q.job(2, 1, 1, 1), 0);
    }

    private static void order() {
        Due.sentence("a row of all JOBS, each CUT behind the other from the PIECE as it is, all QUIET");
        // A pass is QUIET only if its FEED is one more than the passes ahead of it: one row alone is.
        for (int[] feeds : permutations(5)) {
            QuietCut q = Due.shopOf(WORN + "(w/1000-h+1)*9;");
            for (int feed : feeds) {
                q.job(feed % 2, 1, feed, 1);
            }
            Due.due("order of FEEDS " + java.util.Arrays.toString(feeds), q.order(8, 2), 0);
            for (int i = 0; i < 5; i++) {
                Due.due("FEED of the JOB at " + i, feeds[Math.max(0, q.ordered(i))], i + 1);
            }
            Due.due("none behind", q.ordered(5), Due.NONE);
        }
        QuietCut q = Due.shopOf(WORN + "(w/1000-h+1)*9;");
        q.job(0, 1, 1, 1);
        q.job(0, 1, 2, 1);
        q.job(0, 1, 4, 1);
        Due.due("no row of all", q.order(8, 2), Due.NONE);
        q.cut(1, 1, 1, 1, 8, 2);
        Due.due("from the WEAR as it is", q.order(8, 2), Due.NONE);
        Due.sentence("ORDER of all JOBS: the sum of WAVES; NONE: there is none; RANGE: stiffness, damping; STATE: no JOBS. (The PIECE stays.)");
        q = Due.shopOf(Due.STILL + "wear 3;");
        Due.due("no JOBS", q.order(0, 0), Due.STATE);
        Due.due("no JOBS", q.order(300, 300), Due.STATE);
        int[][] wrong = {{-1, 0}, {301, 0}, {0, -1}, {0, 301}, {Due.MIN, 0}, {0, Due.MAX}, {-1, -1}};
        for (int[] hold : wrong) {
            Due.due("no JOBS, RANGE is told first", q.order(hold[0], hold[1]), Due.RANGE);
        }
        q.job(0, 1, 20, 12);
        for (int[] hold : wrong) {
            Due.due("RANGE", q.order(hold[0], hold[1]), Due.RANGE);
        }
        int[][] fine = {{0, 0}, {300, 0}, {0, 300}, {300, 300}};
        for (int[] hold : fine) {
            Due.due("the bounds themselves", q.order(hold[0], hold[1]), 0);
        }
        q.job(0, 1, 20, 12);
        q.job(0, 1, 20, 12);
        q.job(0, 1, 20, 12);
        Due.due("960 of 1000", q.order(0, 0), 0);
        q.job(0, 1, 4, 10);
        Due.due("1000 of 1000 can't be", q.order(0, 0), Due.NONE);
        Due.due("the PIECE stays", q.height(0, 0), 1000);
        Due.due("WEAR stays", q.count(0), 0);
        Due.due("no PASS is CUT", q.count(1), 0);
        Due.due("nobody LEFT it", q.left(0, 0, 0), Due.NONE);
        q.set(0, 0, 1001);
        Due.due("1000 of 1001, all others OUT at last", q.order(0, 0), 0);
    }

    private static void orderHolds() {
        Due.sentence("ORDER by a stiffness and a damping");
        // x is 1 behind the first step, 3 - K - damping behind the second: QUIET for those below 5 or so, SHAKEN above.
        int told = 0;
        for (int k = 0; k <= 8; k++) {
            for (int d = 0; d <= 8; d++) {
                QuietCut q = Due.shopOf("sectors 4;rings 2;mass 1;limit 6;mark 9;turns 1;force 1;");
                q.job(1, 2, 20, 1);
                int verdict = q.attempt(1, 2, 20, 1, k, d);
                told += verdict == 0 ? 1 : 0;
                Due.due("order(" + k + ", " + d + ")", q.order(k, d), verdict == 0 ? q.passed(0) : Due.NONE);
                Due.due("until by " + k + ", " + d, q.until(1, 2, 20, 1, k, d) > 0 ? 1 : 0, verdict == 0 ? 1 : 0);
            }
        }
        Due.holds("some are, some are not", told > 5 && told < 76);
        // Of the two RINGS only one is flat.
        for (int r = 0; r < 2; r++) {
            QuietCut q = Due.shopOf(Due.STILL + "mark 50;");
            q.set(r, 2, 970);
            q.job(1, 1, 5, 2);
            q.job(0, 1, 4, 3);
            Due.due("the JOB's own RING", q.order(0, 0), r == 1 ? 20 : 18);
        }
    }

    private static void orderWaves() {
        Due.sentence("the least sum of WAVES; then the least row.");
        QuietCut q = Due.shopOf(Due.STILL + "mark 900;");
        for (int i = 0; i < 5; i++) {
            q.job(0, 1, 1 + i, 1);
        }
        q.set(0, 1, 900);
        // Behind each pass the wave is 100 less all that was cut: the deepest come first.
        Due.due("95 + 91 + 88 + 86 + 85", q.order(0, 0), 445);
        for (int i = 0; i < 5; i++) {
            Due.due("ordered(" + i + ")", q.ordered(i), 4 - i);
        }
        q = Due.shopOf(Due.STILL + "mark 900;");
        int[] feeds = {2, 5, 2, 5, 2};
        for (int feed : feeds) {
            q.job(0, 1, feed, 1);
        }
        q.set(0, 1, 900);
        Due.due("95 + 90 + 88 + 86 + 84", q.order(0, 0), 443);
        int[] row = {1, 3, 0, 2, 4};
        for (int i = 0; i < 5; i++) {
            Due.due("of the same the least first: ordered(" + i + ")", q.ordered(i), row[i]);
        }
        // mark is for each pass, not for the sum.
        q = Due.shopOf(Due.STILL + "mark 95;");
        q.set(0, 1, 900);
        q.job(0, 1, 4, 1);
        Due.due("96", q.order(0, 0), Due.NONE);
        q.job(0, 1, 5, 1);
        Due.due("95 + 91", q.order(0, 0), 186);
        Due.due("ordered(0)", q.ordered(0), 1);
    }

    private static List<int[]> permutations(int many) {
        List<int[]> all = new ArrayList<>();
        extend(all, new int[many], 0, 0);
        return all;
    }

    private static void extend(List<int[]> all, int[] row, int at, int used) {
        if (at == row.length) {
            all.add(row.clone());
            return;
        }
        for (int n = 1; n <= row.length; n++) {
            if ((used >> n & 1) == 0) {
                row[at] = n;
                extend(all, row, at + 1, used | 1 << n);
            }
        }
    }

    private static void orderedCall() {
        Due.sentence("The i-th JOB of the latest order() that told a sum; NONE: none such, or a job(), a shop() came since.");
        QuietCut q = Due.shopOf(Due.STILL);
        orderedIs(q);
        q.order(0, 0);
        orderedIs(q);
        q.job(0, 1, 1, 1);
        orderedIs(q);
        q.order(0, 0);
        orderedIs(q, 0);
        q.job(1, 1, 20, 12);
        orderedIs(q);
        q.order(0, 301);
        orderedIs(q);
        q.order(0, 0);
        orderedIs(q, 0, 1);
        q.order(0, 301);
        orderedIs(q, 0, 1);
        q.piece(100);
        Due.due("none", q.order(0, 0), Due.NONE);
        orderedIs(q, 0, 1);
        q.cut(0, 1, 1, 1, 0, 0);
        q.set(0, 0, 500);
        q.change();
        q.until(0, 1, 1, 1, 0, 0);
        q.offer(0, 1, 1, 1);
        orderedIs(q, 0, 1);
        Due.shop(q, Due.STILL);
        orderedIs(q);
        q.order(0, 0);
        orderedIs(q);
        // A call that is refused brings no JOB and no SHOP.
        for (int i = 0; i < 5; i++) {
            q.job(0, 1, 1, 1);
        }
        q.order(0, 0);
        Due.due("FULL", q.job(0, 1, 1, 1), Due.FULL);
        Due.due("RANGE", q.job(0, 0, 1, 1), Due.RANGE);
        Due.due("a FAULT", Due.shop(q, "x"), Due.NONE);
        orderedIs(q, 0, 1, 2, 3, 4);
    }

    private static void orderedIs(QuietCut q, int... row) {
        for (int i = -2; i <= 7; i++) {
            Due.due("ordered(" + i + ")", q.ordered(i), i >= 0 && i < row.length ? row[i] : Due.NONE);
        }
        Due.due("ordered(MIN)", q.ordered(Due.MIN), Due.NONE);
        Due.due("ordered(MAX)", q.ordered(Due.MAX), Due.NONE);
    }

    private static void until() {
        Due.sentence("how many times one after the other a PASS, CUT from the PIECE as it is, is QUIET (at most 30)");
        for (int many : new int[] {1, 2, 15, 28, 29, 30, 31, 99}) {
            QuietCut q = Due.shopOf(WORN + "w/1000/" + many + "*9;");
            Due.due("QUIET " + many + " times", q.until(0, 1, 1, 1, 0, 0), Math.min(30, many));
            if (many < 29) {
                q.cut(1, 1, 1, 1, 0, 0);
                Due.due("once less", q.until(0, 1, 1, 1, 0, 0), many - 1);
            }
            Due.due("WEAR stays", q.count(0), many < 29 ? 1000 : 0);
        }
        Due.due("never", Due.shopOf(SHAKY + "9;").until(0, 1, 1, 1, 0, 0), 0);
        QuietCut q = Due.shopOf(Due.STILL + "mark 5;");
        q.set(0, 1, 980);
        Due.due("MARKED at once", q.until(0, 1, 1, 1, 0, 0), 0);
        q.set(0, 1, 994);
        Due.due("QUIET from the first on", q.until(0, 1, 1, 1, 0, 0), 30);
        Due.sentence("it ends, too, when it can't be.");
        int[][] passes = {{20, 1, 4}, {11, 1, 9}, {9, 11, 1}, {10, 10, 0}, {20, 12, 0}, {4, 1, 24}, {3, 1, 30}, {1, 3, 30}, {1, 4, 24}};
        for (int[] pass : passes) {
            q = Due.shopOf(Due.STILL);
            q.piece(100);
            Due.due("100 by " + pass[0] + " times " + pass[1], q.until(0, 1, pass[0], pass[1], 0, 0), pass[2]);
            Due.due("the PIECE stays", q.height(0, 0), 100);
            Due.due("no PASS is CUT", q.count(1), 0);
        }
        Due.sentence("UNTIL; RANGE. (The PIECE stays.)");
        q = Due.shopOf(Due.STILL + "wear 1;");
        q.piece(100);
        Due.due("RANGE, though it can't be", q.until(0, 1, 20, 12, 0, 301), Due.RANGE);
        Due.due("RANGE", q.until(2, 1, 1, 1, 0, 0), Due.RANGE);
        Due.due("UNTIL", q.until(0, 1, 1, 1, 300, 300), 30);
        Due.due("nobody LEFT it", q.left(0, 0, 0), Due.NONE);
        Due.due("height", q.height(0, 0), 100);
    }
}
