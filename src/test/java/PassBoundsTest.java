/** The bounds of a PIECE and of a PASS: what can be, what a chip, a force, a wall, the wear and x are held to. */
public final class PassBoundsTest {
    // A force of 2 or more shakes in the first step, so that x is then the force over the mass and nothing else.
    private static final String ONE_STEP = "sectors 4;rings 1;limit 1;";

    public static void main(String[] args) {
        placesOfPiece();
        numbersOfPass();
        smallerShops();
        level();
        gap();
        chip();
        toothPlace();
        force();
        wear();
        steps();
        towardsZero();
        wall();
        limit();
        verdict();
        tried();
        cuts();
        pieceCall();
        heightAndSet();
        changeCall();
        attemptCall();
        cutCall();
        passedCall();
        leftCall();
        Due.finish("PassBoundsTest");
    }

    private static void placesOfPiece() {
        Due.sentence("RINGS 0 .. rings - 1, each with a height at each SECTOR (0 .. sectors - 1); it is 1000 everywhere at first. WEAR is 0 at first.");
        for (int rings = 1; rings <= 6; rings++) {
            for (int sectors = 4; sectors <= 16; sectors += rings % 2 == 0 ? 4 : 12) {
                QuietCut q = Due.shopOf("rings " + rings + ";sectors " + sectors + ";");
                for (int r = -1; r <= rings; r++) {
                    for (int s = -1; s <= sectors; s++) {
                        boolean there = r >= 0 && r < rings && s >= 0 && s < sectors;
                        Due.due("height(" + r + ", " + s + ")", q.height(r, s), there ? 1000 : Due.NO_HEIGHT);
                    }
                }
                Due.due("WEAR", q.count(0), 0);
                Due.due("the last place", q.set(rings - 1, sectors - 1, 777), 1000);
                Due.due("the last place", q.height(rings - 1, sectors - 1), 777);
                Due.due("the first place", q.height(0, 0), 1000);
            }
        }
    }

    private static void numbersOfPass() {
        Due.sentence("a RING, a SPEED 1 .. 9, a FEED 1 .. 20, TURNS 1 .. 12, by a stiffness and a damping (0 .. 300)");
        int[] low = {0, 1, 1, 1, 0, 0};
        int[] high = {1, 9, 20, 12, 300, 300};
        for (int at = 0; at < 6; at++) {
            for (int n : new int[] {low[at], high[at], low[at] - 1, high[at] + 1, Due.MIN, Due.MAX}) {
                int[] p = low.clone();
                p[at] = n;
                boolean may = n >= low[at] && n <= high[at];
                dueOfPass(p, may, at < 4);
            }
        }
        dueOfPass(high, true, true);
    }

    private static void dueOfPass(int[] p, boolean may, boolean ofFour) {
        QuietCut q = Due.shopOf(Due.STILL);
        String numbers = "(" + p[0] + ", " + p[1] + ", " + p[2] + ", " + p[3] + ", " + p[4] + ", " + p[5] + ")";
        Due.due("attempt" + numbers, q.attempt(p[0], p[1], p[2], p[3], p[4], p[5]), may ? 0 : Due.RANGE);
        Due.due("until" + numbers, q.until(p[0], p[1], p[2], p[3], p[4], p[5]), may ? p[2] == 20 && p[3] == 12 ? 4 : 30 : Due.RANGE);
        Due.due("cut" + numbers, q.cut(p[0], p[1], p[2], p[3], p[4], p[5]), may ? 0 : Due.RANGE);
        Due.due("PASSES CUT", q.count(1), may ? 1 : 0);
        if (ofFour) {
            Due.due("sure" + numbers, q.sure(p[0], p[1], p[2], p[3]), may ? 1 : Due.RANGE);
            Due.due("job" + numbers, q.job(p[0], p[1], p[2], p[3]), may ? 0 : Due.RANGE);
            Due.due("offer" + numbers, q.offer(p[0], p[1], p[2], p[3]), may ? 0 : Due.RANGE);
        }
        boolean four = p[2] == 20 || p[3] == 12;
        if (p[2] == 1 && p[3] == 1 || four) {
            boolean place = p[0] >= 0 && p[0] <= 1 && p[1] >= 1 && p[1] <= 9;
            Due.due("deepest" + numbers, q.deepest(p[0], p[1]), place ? 20 : Due.RANGE);
            Due.due("bestTeeth" + numbers, q.bestTeeth(p[0], p[1], 1, 6), place ? 2 : Due.RANGE);
            Due.due("best" + numbers, q.best(p[0]), p[0] >= 0 && p[0] <= 1 ? 1 : Due.RANGE);
            Due.due("plan" + numbers, q.plan(p[0], 20), p[0] >= 0 && p[0] <= 1 ? 4 : Due.RANGE);
        }
        if (p[0] == 0 && p[1] == 1 && p[2] == 1 && p[3] == 1) {
            q.job(0, 1, 1, 1);
            Due.due("order" + numbers, q.order(p[4], p[5]), may ? 0 : Due.RANGE);
        }
    }

    /** What a pass on a greater PIECE had in hand is nothing to one on a smaller. */
    private static void smallerShops() {
        Due.sentence("The PIECE is fresh then, WEAR 0, no PASS was CUT");
        QuietCut q = Due.shopOf("sectors 16;rings 6;force 0;mark 9999;teeth 0 1 2 3;sway 9 9 9 9 9 9;");
        q.piece(5000);
        q.set(5, 15, 100);
        Due.due("a great one", q.cut(5, 9, 20, 12, 0, 0), 0);
        Due.due("WAVE", q.passed(0), 4660);
        Due.due("TIME", q.passed(1), 12 * 16 * 18);
        Due.due("a small one", Due.shop(q, "sectors 4;rings 1;force 0;"), 3);
        Due.due("height", q.height(0, 3), 1000);
        Due.due("no ring 5", q.height(5, 0), Due.NO_HEIGHT);
        q.piece(100);
        Due.due("LEVEL 100", q.attempt(0, 1, 10, 10, 0, 0), Due.STATE);
        Due.due("LEVEL 100", q.cut(0, 1, 9, 11, 0, 0), 0);
        Due.due("WAVE", q.passed(0), 0);
        Due.due("TIME", q.passed(1), 44);
        Due.due("OUT", q.passed(2), 0);
        Due.due("a great one", Due.shop(q, "sectors 16;rings 6;force 0;"), 3);
        for (int i = 0; i < 96; i++) {
            Due.due("height", q.height(i / 16, i % 16), 1000);
            Due.due("left", q.left(i / 16, i % 16, 0), Due.NONE);
        }
    }

    private static void level() {
        Due.sentence("LEVEL: the greatest height of the RING ahead of it; if that less FEED times TURNS is below 1, it can't be.");
        QuietCut q = Due.shopOf(Due.STILL);
        QuietCut other = Due.shopOf(Due.STILL);
        q.piece(100);
        other.piece(100);
        other.set(0, 3, 101);
        for (int feed = 1; feed <= 20; feed++) {
            for (int turns = 1; turns <= 12; turns++) {
                Due.due("100 less " + feed + " times " + turns, q.attempt(0, 1, feed, turns, 0, 0), 100 - feed * turns < 1 ? Due.STATE : 0);
                Due.due("101 less " + feed + " times " + turns, other.sure(0, 1, feed, turns), 101 - feed * turns < 1 ? Due.STATE : 1);
            }
        }
        lowLevels();
        QuietCut below = Due.shopOf("sectors 4;rings 1;mass 1;limit 9999;force -200;");
        below.piece(100);
        Due.due("a pass that leaves all below 0", below.cut(0, 1, 1, 2, 0, 0), 1);
        Due.due("the greatest", below.height(0, 0), 98 - 2000);
        Due.due("LEVEL below 0", below.attempt(0, 1, 1, 1, 0, 0), Due.STATE);
        Due.due("set by hand it can be", below.set(0, 2, 102) < 0 ? below.attempt(0, 1, 1, 1, 0, 0) : Due.NONE, 1);
    }

    private static void lowLevels() {
        QuietCut q = Due.shopOf(Due.STILL);
        q.piece(100);
        Due.due("down to 2", q.cut(0, 1, 14, 7, 0, 0), 0);
        Due.due("LEVEL 2 less 2", q.attempt(0, 1, 2, 1, 0, 0), Due.STATE);
        Due.due("LEVEL 2 less 2", q.attempt(0, 1, 1, 2, 0, 0), Due.STATE);
        Due.due("LEVEL 2 less 1", q.cut(0, 1, 1, 1, 0, 0), 0);
        Due.due("height", q.height(0, 0), 1);
        Due.due("LEVEL 1, attempt", q.attempt(0, 1, 1, 1, 0, 0), Due.STATE);
        Due.due("LEVEL 1, cut", q.cut(0, 1, 1, 1, 0, 0), Due.STATE);
        Due.due("LEVEL 1, sure", q.sure(0, 1, 1, 1), Due.STATE);
        Due.due("LEVEL 1, deepest", q.deepest(0, 1), Due.NONE);
        Due.due("LEVEL 1, best", q.best(0), Due.NONE);
        Due.due("LEVEL 1, plan", q.plan(0, 1), Due.NONE);
        Due.due("LEVEL 1, bestTeeth", q.bestTeeth(0, 1, 1, 1), Due.NONE);
        Due.due("LEVEL 1, until", q.until(0, 1, 1, 1, 0, 0), 0);
        Due.due("LEVEL 1, job", q.job(0, 1, 1, 1), 0);
        Due.due("LEVEL 1, order", q.order(0, 0), Due.NONE);
        Due.due("LEVEL 1 is nothing to an offer", q.offer(0, 1, 1, 1), 0);
        Due.due("the other ring", q.attempt(1, 1, 9, 11, 0, 0), 0);
    }

    private static void gap() {
        Due.sentence("GAP: the least height of the RINGS next to it, ahead of it (LEVEL, if there are none).");
        // One ring alone: its greatest height, not its least, and as it was ahead of the pass.
        QuietCut q = Due.shopOf("sectors 4;rings 1;mass 1;force 1;limit 1;wall g-995;");
        q.set(0, 2, 700);
        Due.due("shaken", q.attempt(0, 2, 20, 1, 0, 0), 2);
        Due.due("x is 3 less K, K is 5", q.passed(4), -2);
        // K is 10 from the one place next to the ring that is lowest: at each sector of each neighbour in turn.
        int[][] neighbours = {{0, 1}, {1, 0}, {1, 2}, {2, 1}};
        for (int[] pair : neighbours) {
            for (int sector = 0; sector < 4; sector++) {
                q = Due.shopOf("sectors 4;rings 3;mass 1;force 1;limit 1;wall g-790;");
                q.piece(1000);
                q.set(pair[1], sector, 800);
                q.attempt(pair[0], 2, 20, 1, 0, 0);
                Due.due("x is 3 less K, ring " + pair[0] + " by " + pair[1], q.passed(4), -7);
            }
        }
        // Neither the ring itself nor one farther off counts, be it lower; and a high neighbour counts as it is.
        int[][] heights = {{700, 1200, 600}, {1200, 700, 1200}, {600, 1200, 700}, {1200, 700, 1300}, {1300, 700, 1200}};
        int[] of = {0, 1, 2, 1, 1};
        for (int i = 0; i < of.length; i++) {
            q = Due.shopOf("sectors 4;rings 3;mass 1;force 1;limit 1;wall g-1190;");
            for (int place = 0; place < 12; place++) {
                q.set(place / 4, place % 4, heights[i][place / 4]);
            }
            q.attempt(of[i], 2, 20, 1, 0, 0);
            Due.due("x is 3 less K, case " + i, q.passed(4), -7);
        }
    }

    private static void chip() {
        Due.sentence("If h is above 0");
        QuietCut q = Due.shopOf(Due.STILL + "wear 1;");
        q.set(0, 1, 995);
        q.set(0, 2, 996);
        q.set(0, 3, 994);
        Due.due("cut", q.cut(0, 1, 5, 1, 0, 0), 0);
        int[] heights = {995, 995, 995, 994};
        int[] by = {0, Due.NONE, 0, Due.NONE};
        for (int s = 0; s < 4; s++) {
            Due.due("height(0, " + s + ")", q.height(0, s), heights[s]);
            Due.due("left(0, " + s + ", 0)", q.left(0, s, 0), by[s]);
        }
        Due.due("OUT where h is 0 or below", q.passed(2), 2);
        Due.due("WEAR grows where h is above 0", q.passed(5), 2);
    }

    private static void toothPlace() {
        Due.sentence("at SECTOR i and its N (modulo sectors)");
        for (int sectors = 4; sectors <= 16; sectors++) {
            for (int n = 0; n <= 15; n++) {
                // The first sector's first step shakes, so that only the first place is cut.
                QuietCut q = Due.shopOf("sectors " + sectors + ";teeth " + n + ";mass 1;limit 1;force 9;");
                Due.due("cut", q.cut(0, 1, 1, 1, 0, 0), 2);
                int cut = 0;
                for (int s = 0; s < sectors; s++) {
                    cut += q.left(0, s, 0) == 0 ? 1 : 0;
                }
                Due.due("one place is cut", cut, 1);
                Due.due("tooth " + n + " of " + sectors, q.height(0, n % sectors), 999);
            }
        }
    }

    private static void force() {
        Due.sentence("the force there (what force tells, w: WEAR; not below -9999 nor above 9999) counts");
        Object[][] forces = {{"9998", 9998}, {"9999", 9999}, {"9999+1", 9999}, {"9999*9999", 9999}, {"-9998", -9998}, {"-9999", -9999}, {"-9999-1", -9999},
            {"-9999*9999", -9999}, {"2", 2}, {"-2", -2}};
        for (Object[] force : forces) {
            QuietCut q = Due.shopOf(ONE_STEP + "mass 1;force " + force[0] + ";");
            Due.due("force " + force[0], q.attempt(0, 1, 1, 1, 0, 0), 2);
            Due.due("x by force " + force[0], q.passed(4), (Integer) force[1]);
            q = Due.shopOf(ONE_STEP + "mass 1;teeth 0 1 2 3;force " + force[0] + ";");
            q.attempt(0, 1, 1, 1, 0, 0);
            Due.due("each tooth's counts, the sum is free", q.passed(4), 4 * (Integer) force[1]);
            q = Due.shopOf(ONE_STEP + "mass 1;teeth 0 0 0 0;force " + force[0] + ";");
            q.attempt(0, 1, 1, 1, 0, 0);
            Due.due("a tooth that is OUT has none", q.passed(4), (Integer) force[1]);
            Due.due("OUT", q.passed(2), 3);
        }
        QuietCut q = Due.shopOf(ONE_STEP + "mass 1;teeth 0 1 2 3;force w;wear 7;");
        q.attempt(0, 1, 1, 1, 0, 0);
        Due.due("WEAR ahead of each tooth: 0, 7, 14, 21", q.passed(4), 42);
    }

    private static void wear() {
        Due.sentence("WEAR grows by what wear tells (not by less than 0; never above 30000)");
        // Near the greatest int, so that WEAR and this would wrap.
        String most = "9999*9999*21+9999*4787+9999";
        Object[][] wears = {{"-1", 0, 0}, {"-9999*9999", 0, 0}, {"0", 0, 0}, {"1", 4, 8}, {"7499", 29996, 30000}, {"7500", 30000, 30000}, {"7501", 30000, 30000},
            {"9999*9999", 30000, 30000}, {most, 30000, 30000}, {"0-(" + most + ")", 0, 0}, {"h", 4, 8}};
        for (Object[] wear : wears) {
            QuietCut q = Due.shopOf(Due.STILL + "wear " + wear[0] + ";");
            q.cut(0, 1, 1, 1, 0, 0);
            Due.due("four chips of " + wear[0], q.count(0), (Integer) wear[1]);
            q.cut(1, 1, 1, 1, 0, 0);
            Due.due("eight chips of " + wear[0], q.count(0), (Integer) wear[2]);
            Due.due("at the pass's end", q.passed(5), (Integer) wear[2]);
        }
        // Chips of 1 and of 20, worn by h less 10: the small ones take nothing back.
        QuietCut q = Due.shopOf(Due.STILL + "wear h-10;");
        q.cut(0, 1, 20, 1, 0, 0);
        q.cut(0, 1, 1, 1, 0, 0);
        Due.due("40 and no less", q.count(0), 40);
    }

    private static void steps() {
        Due.sentence("as many steps as SPEED and a number of sway (of all SECTORS so far, TURNS through, one by one, going round)");
        int[][] sways = {{0}, {9}, {0, 9}, {1, 2, 3}, {5, 0, 0, 1}, {1, 2, 3, 4, 5}, {9, 8, 7, 6, 5, 4}};
        for (int[] sway : sways) {
            StringBuilder row = new StringBuilder("sway");
            for (int n : sway) {
                row.append(' ').append(n);
            }
            for (int sectors = 4; sectors <= 16; sectors += 3) {
                QuietCut q = Due.shopOf("sectors " + sectors + ";force 0;" + row + ";");
                for (int turns = 1; turns <= 12; turns++) {
                    for (int speed = 1; speed <= 9; speed += 8) {
                        int time = 0;
                        for (int i = 0; i < sectors * turns; i++) {
                            time += speed + sway[i % sway.length];
                        }
                        q.attempt(0, speed, 1, turns, 0, 0);
                        Due.due("TIME of " + turns + " turns of " + sectors + " at " + speed + " with " + row, q.passed(1), time);
                    }
                }
            }
        }
    }

    private static void towardsZero() {
        Due.sentence("v grows by (the sum of forces - K x - damping v) / mass (cut towards 0), then x by v");
        int[][] forces = {{8, 2}, {9, 2}, {11, 2}, {12, 3}, {-8, -2}, {-9, -2}, {-11, -2}, {-12, -3}};
        for (int[] force : forces) {
            QuietCut q = Due.shopOf(ONE_STEP + "mass 4;force " + force[0] + ";");
            q.attempt(0, 1, 1, 1, 0, 0);
            Due.due("x by " + force[0] + " over 4", q.passed(4), force[1]);
        }
        for (String force : new String[] {"98", "-98", "0"}) {
            QuietCut q = Due.shopOf("sectors 4;rings 1;mass 99;limit 1;force " + force + ";");
            Due.due("less than the mass moves nothing", q.attempt(0, 9, 1, 12, 0, 0), 0);
            Due.due("the greatest of x", q.passed(3), 0);
        }
        // v 5, x 5; then (10 - 45 - 10) / 2 is -22: v -17, x -12.
        QuietCut q = Due.shopOf("sectors 4;rings 1;mass 2;force 10;limit 5;mark 9999;");
        q.attempt(0, 2, 20, 1, 9, 2);
        Due.due("x behind two steps", q.passed(4), -12);
        Due.due("TIME", q.passed(1), 2);
    }

    /** With a force of 1, mass 1 and no damping x is 1 behind the first step and 3 - K behind the second. */
    private static void wall() {
        Due.sentence("K is stiffness and what wall tells (l: the height at SECTOR i now, g: GAP; not below 0 nor above 999)");
        Object[][] walls = {{"998", 0, 998}, {"999", 0, 999}, {"1000", 0, 999}, {"9999*9999", 0, 999}, {"999", 300, 1299}, {"1000", 300, 1299}, {"0", 10, 10}, {"1", 10, 11},
            {"-1", 10, 10}, {"-9999", 10, 10}, {"-9999*9999", 10, 10}, {"0", 300, 300}, {"5", 0, 5}, {"l-990", 0, 5}, {"g-990", 0, 10}, {"g-l", 0, 5}};
        for (Object[] wall : walls) {
            QuietCut q = Due.shopOf("sectors 4;rings 2;mass 1;force 1;limit 1;wall " + wall[0] + ";");
            Due.due("shaken by wall " + wall[0], q.attempt(0, 2, 5, 1, (Integer) wall[1], 0), 2);
            Due.due("TIME", q.passed(1), 2);
            Due.due("x with wall " + wall[0], q.passed(4), 3 - (Integer) wall[2]);
        }
    }

    /** With stiffness 1 and damping 1 a force of F takes x to F in one step, and there it stays. */
    private static void limit() {
        Due.sentence("If x is above limit or below -limit behind a step, the PASS is SHAKEN: it ends at once.");
        for (int limit : new int[] {1, 7, 19}) {
            for (int sign = -1; sign <= 1; sign += 2) {
                for (int force = limit - 1; force <= limit + 1; force++) {
                    QuietCut q = Due.shopOf("sectors 4;rings 1;mass 1;mark 9999;limit " + limit + ";force " + (sign < 0 ? "-" : "") + force + ";");
                    boolean shaken = force > limit;
                    Due.due("x " + force + ", limit " + limit, q.cut(0, 1, 20, 2, 1, 1), shaken ? 2 : 0);
                    Due.due("TIME", q.passed(1), shaken ? 1 : 8);
                    Due.due("x at the end", q.passed(4), sign * force);
                    Due.due("the greatest of x", q.passed(3), force);
                    Due.due("TURNS begun", q.passed(6), shaken ? 1 : 2);
                    Due.due("what comes behind is not cut", q.height(0, 1), shaken ? 1000 : 960 + sign * force);
                    Due.due("what came ahead is cut", q.height(0, 0), shaken ? 980 : 960 + sign * force);
                }
            }
        }
        // Two teeth of 4999 or 5000 each and a mass of 1: x is 9998 or 10000 behind the first step.
        QuietCut q = Due.shopOf("sectors 4;rings 1;mass 1;limit 9999;teeth 0 1;force 5000;");
        Due.due("10000", q.attempt(0, 9, 1, 1, 0, 0), 2);
        Due.due("TIME", q.passed(1), 1);
        q = Due.shopOf("sectors 4;rings 1;mass 1;limit 9999;force 9999;");
        Due.due("9999, then more", q.attempt(0, 9, 1, 1, 0, 0), 2);
        Due.due("TIME", q.passed(1), 2);
        Due.due("x", q.passed(4), 29997);
        // Only steps are looked at: the first sector's bite alone shakes nothing.
        Due.due("in the middle of a sector's steps", Due.shopOf("sectors 4;rings 1;mass 1;limit 9;force 3;").attempt(0, 9, 1, 1, 0, 0), 2);
    }

    private static void verdict() {
        Due.sentence("VERDICT: 0 QUIET: not SHAKEN, WAVE not above mark; 1 MARKED: not SHAKEN, but above; 2 SHAKEN.");
        for (int mark : new int[] {0, 1, 5, 700}) {
            QuietCut q = Due.shopOf(Due.STILL + "mark " + mark + ";");
            for (int wave = Math.max(0, mark - 1); wave <= mark + 1; wave++) {
                q.set(0, 2, 999 - wave);
                Due.due("WAVE " + wave + ", mark " + mark, q.attempt(0, 1, 1, 1, 0, 0), wave > mark ? 1 : 0);
                Due.due("WAVE", q.passed(0), wave);
                Due.due("sure", q.sure(0, 1, 1, 1), wave > mark ? 0 : 1);
            }
        }
        QuietCut q = Due.shopOf("sectors 4;rings 1;mass 1;limit 1;force 2;mark 9999;");
        Due.due("SHAKEN, WAVE not above mark", q.attempt(0, 1, 20, 1, 0, 0), 2);
        Due.due("its WAVE", q.passed(0), 20);
        q = Due.shopOf("sectors 4;rings 1;mass 1;limit 1;force 2;mark 0;");
        Due.due("SHAKEN, WAVE above mark", q.attempt(0, 1, 20, 1, 0, 0), 2);
        Due.sentence("WAVE: the greatest height of the RING at the end less the least.");
        q = Due.shopOf(Due.STILL + "mark 9999;");
        q.set(0, 0, 5000);
        q.set(0, 3, 100);
        q.set(1, 0, 4000);
        q.attempt(0, 1, 20, 12, 0, 0);
        Due.due("5000 less 240 and 100", q.passed(0), 4660);
        q.attempt(1, 1, 20, 12, 0, 0);
        Due.due("4000 less 240 and 1000", q.passed(0), 2760);
    }

    private static void tried() {
        Due.sentence("TRIED, a PASS changes nothing");
        QuietCut q = Due.shopOf("sectors 4;rings 2;mass 1;limit 40;force h/2;wear h;");
        q.cut(0, 1, 4, 1, 4, 0);
        int wear = q.count(0);
        int[] heights = new int[8];
        for (int i = 0; i < 8; i++) {
            heights[i] = q.height(i / 4, i % 4);
        }
        for (int feed = 1; feed <= 20; feed++) {
            q.attempt(feed % 2, 1 + feed % 9, feed, 1 + feed % 12, feed, 1);
        }
        for (int i = 0; i < 8; i++) {
            Due.due("height", q.height(i / 4, i % 4), heights[i]);
            Due.due("left", q.left(i / 4, i % 4, 0), heights[i] == 1000 ? Due.NONE : 0);
        }
        Due.due("WEAR", q.count(0), wear);
        Due.due("PASSES", q.count(1), 1);
    }

    private static void cuts() {
        Due.sentence("CUT, it changes heights, WEAR and who LEFT (numbers of PASSES from 0 on, as they are CUT; at most 200).");
        QuietCut q = Due.shopOf(Due.STILL + "wear 1;");
        q.piece(5000);
        for (int i = 0; i < 200; i++) {
            Due.due("cut no. " + i, q.cut(i % 2, 1, 1, 1, 0, 0), 0);
        }
        Due.due("the 201st", q.cut(0, 1, 1, 1, 0, 0), Due.FULL);
        Due.due("the 202nd", q.cut(1, 1, 1, 1, 0, 0), Due.FULL);
        Due.due("PASSES", q.count(1), 200);
        Due.due("WEAR", q.count(0), 800);
        Due.due("height", q.height(0, 0), 4900);
        Due.due("the last but one", q.left(0, 0, 0), 198);
        Due.due("the last", q.left(1, 0, 0), 199);
        Due.due("one that is TRIED", q.attempt(0, 1, 1, 1, 0, 0), 0);
        Due.due("passed(5)", q.passed(5), 804);
        q.job(0, 1, 1, 1);
        Due.due("order() cuts nothing of the PIECE", q.order(0, 0), 0);
        Due.due("until() cuts nothing of the PIECE", q.until(0, 1, 1, 1, 0, 0), 30);
        Due.due("a fresh PIECE", q.piece(200), 1);
        Due.due("PASSES", q.count(1), 0);
        Due.due("cut", q.cut(0, 1, 1, 1, 0, 0), 0);
        Due.due("from 0 on", q.left(0, 0, 0), 0);
        // Those that are not QUIET are CUT and counted as well.
        q = Due.shopOf("sectors 4;rings 1;mass 1;limit 1;force 9;");
        for (int i = 0; i < 200; i++) {
            Due.due("SHAKEN no. " + i, q.cut(0, 1, 1, 1, 0, 0), 2);
            q.set(0, 0, 1000);
        }
        Due.due("the 201st", q.cut(0, 1, 1, 1, 0, 0), Due.FULL);
        Due.due("a new SHOP", Due.shop(q, ""), 0);
        Due.due("PASSES", q.count(1), 0);
        Due.due("cut", Math.min(0, q.cut(0, 1, 1, 1, 8, 2)), 0);
    }

    private static void pieceCall() {
        Due.sentence("A fresh PIECE of a height (100 .. 5000), WEAR 0, no PASS CUT: 1; RANGE.");
        for (int height : new int[] {100, 101, 4999, 5000}) {
            QuietCut q = Due.shopOf("sectors 16;rings 6;mass 99;wear h;");
            q.cut(5, 1, 5, 1, 8, 2);
            Due.due("piece(" + height + ")", q.piece(height), 1);
            for (int i = 0; i < 96; i++) {
                Due.due("height", q.height(i / 16, i % 16), height);
                Due.due("who LEFT it", q.left(i / 16, i % 16, 0), Due.NONE);
            }
            Due.due("WEAR", q.count(0), 0);
            Due.due("PASSES", q.count(1), 0);
        }
        QuietCut q = Due.shopOf(Due.STILL + "wear h;");
        q.cut(0, 1, 5, 1, 8, 2);
        for (int height : new int[] {99, 5001, 0, -1, -100, Due.MIN, Due.MAX}) {
            Due.due("piece(" + height + ")", q.piece(height), Due.RANGE);
            Due.due("the PIECE stays", q.height(0, 0), 995);
            Due.due("WEAR stays", q.count(0), 20);
            Due.due("PASSES stay", q.count(1), 1);
        }
    }

    private static void heightAndSet() {
        Due.sentence("The height at a RING and SECTOR; RANGE (-100000).");
        QuietCut q = Due.shopOf("sectors 5;rings 4;");
        int[][] nowhere = {{-1, 0}, {4, 0}, {0, -1}, {0, 5}, {4, 5}, {-1, -1}, {Due.MIN, 0}, {Due.MAX, 0}, {0, Due.MIN}, {0, Due.MAX}, {Due.MAX, Due.MAX}};
        for (int[] place : nowhere) {
            Due.due("height(" + place[0] + ", " + place[1] + ")", q.height(place[0], place[1]), Due.NO_HEIGHT);
        }
        Due.due("height(3, 4)", q.height(3, 4), 1000);
        Due.due("height(0, 0)", q.height(0, 0), 1000);
        Due.sentence("A height (100 .. 5000) is set by hand (who LEFT it: nobody): what it was; RANGE (-100000).");
        for (int[] place : nowhere) {
            Due.due("set(" + place[0] + ", " + place[1] + ")", q.set(place[0], place[1], 500), Due.NO_HEIGHT);
        }
        q.cut(3, 1, 1, 1, 8, 2);
        Due.due("left", q.left(3, 4, 0), 0);
        int was = q.height(3, 4);
        for (int height : new int[] {99, 5001, 0, -1, Due.MIN, Due.MAX}) {
            Due.due("set to " + height, q.set(3, 4, height), Due.NO_HEIGHT);
            Due.due("it stays", q.height(3, 4), was);
            Due.due("who LEFT it stays", q.left(3, 4, 0), 0);
        }
        for (int height : new int[] {100, 5000}) {
            Due.due("set to " + height, q.set(3, 4, height), was);
            Due.due("it is so", q.height(3, 4), height);
            Due.due("nobody", q.left(3, 4, 0), Due.NONE);
            was = height;
        }
        Due.due("set to what it is", q.set(3, 3, q.height(3, 3)), q.height(3, 3));
        Due.due("by hand all the same", q.left(3, 3, 0), Due.NONE);
        Due.due("the place beside it", q.left(3, 2, 0), 0);
    }

    private static void changeCall() {
        Due.sentence("A new tool: what WEAR was.");
        QuietCut q = Due.shopOf(Due.STILL + "wear 7500;");
        Due.due("none at first", q.change(), 0);
        q.cut(0, 1, 5, 1, 0, 0);
        Due.due("the most", q.change(), 30000);
        Due.due("WEAR", q.count(0), 0);
        Due.due("none", q.change(), 0);
        Due.due("heights stay", q.height(0, 0), 995);
        Due.due("who LEFT stays", q.left(0, 0, 0), 0);
        Due.due("PASSES stay", q.count(1), 1);
        Due.due("passed stays", q.passed(5), 30000);
    }

    private static void attemptCall() {
        Due.sentence("A PASS is TRIED: its VERDICT; RANGE: it is none; STATE: it can't be (LEVEL).");
        QuietCut q = Due.shopOf(Due.STILL);
        q.piece(100);
        Due.due("none, and LEVEL too low", q.attempt(0, 10, 20, 12, 0, 0), Due.RANGE);
        Due.due("none, and LEVEL too low", q.attempt(0, 1, 20, 12, 0, 301), Due.RANGE);
        Due.due("LEVEL too low", q.attempt(0, 9, 20, 12, 300, 300), Due.STATE);
        Due.due("it can be", q.attempt(0, 9, 9, 11, 300, 300), 0);
    }

    private static void cutCall() {
        Due.sentence("A PASS is CUT: its VERDICT; RANGE; STATE; FULL: 200 were.");
        QuietCut q = Due.shopOf(Due.STILL);
        q.piece(301);
        for (int i = 0; i < 199; i++) {
            q.cut(0, 1, 1, 1, 0, 0);
        }
        Due.due("RANGE at 199", q.cut(0, 1, 21, 1, 0, 0), Due.RANGE);
        Due.due("STATE at 199: 102 less 120", q.cut(0, 1, 10, 12, 0, 0), Due.STATE);
        Due.due("the 200th", q.cut(0, 1, 1, 1, 0, 0), 0);
        Due.due("FULL", q.cut(0, 1, 1, 1, 0, 0), Due.FULL);
        Due.due("RANGE is told first", q.cut(0, 1, 21, 1, 0, 0), Due.RANGE);
        Due.due("STATE is told ahead of FULL", q.cut(0, 1, 10, 12, 0, 0), Due.STATE);
        Due.due("height", q.height(0, 0), 101);
        Due.due("PASSES", q.count(1), 200);
    }

    private static void passedCall() {
        Due.sentence("Of the latest attempt() or cut() that told a VERDICT");
        QuietCut q = Due.shopOf(Due.STILL + "wear 1;");
        q.piece(100);
        Due.due("RANGE", q.attempt(0, 0, 1, 1, 0, 0), Due.RANGE);
        Due.due("STATE", q.attempt(0, 1, 20, 12, 0, 0), Due.STATE);
        Due.due("STATE", q.cut(0, 1, 20, 12, 0, 0), Due.STATE);
        passedIs(q, null);
        q.attempt(0, 1, 1, 1, 0, 0);
        int[] first = {0, 4, 0, 0, 0, 4, 1};
        passedIs(q, first);
        q.cut(0, 1, 20, 12, 0, 0);
        q.attempt(0, 10, 1, 1, 0, 0);
        q.sure(0, 9, 1, 1);
        q.until(0, 9, 1, 1, 0, 0);
        q.deepest(0, 9);
        q.best(0);
        q.plan(0, 40);
        q.bestTeeth(0, 9, 2, 7);
        q.job(0, 9, 1, 2);
        q.order(0, 0);
        q.offer(0, 9, 1, 2);
        q.fit(0);
        passedIs(q, first);
        q.cut(0, 2, 1, 3, 0, 0);
        int[] second = {0, 24, 0, 0, 0, 12, 3};
        passedIs(q, second);
        q.piece(5000);
        Due.shop(q, "");
        passedIs(q, second);
        Due.sentence("3: the greatest of x behind a step (without its sign), 4: x at the end");
        QuietCut far = Due.shopOf("sectors 4;rings 1;mass 1;limit 50;force h;");
        Due.due("far", far.attempt(0, 9, 20, 1, 0, 0), 2);
        Due.due("60, behind two steps", far.passed(3), 60);
        Due.due("near, a WAVE of 20", far.attempt(0, 1, 20, 1, 1, 1), 0);
        // v 20, x 20; OUT: v 20 - 20 - 20 is -20, x 0; 20: v 20, x 20; OUT: x 0.
        Due.due("its own greatest", far.passed(3), 20);
        Due.due("x at the end", far.passed(4), 0);
        Due.sentence("-1000000 for others, and ahead of any.");
        passedIs(new QuietCut(), null);
    }

    private static void passedIs(QuietCut q, int[] want) {
        for (int what = -2; what <= 9; what++) {
            Due.due("passed(" + what + ")", q.passed(what), want != null && what >= 0 && what < 7 ? want[what] : Due.NOT_PASSED);
        }
        Due.due("passed(MIN)", q.passed(Due.MIN), Due.NOT_PASSED);
        Due.due("passed(MAX)", q.passed(Due.MAX), Due.NOT_PASSED);
    }

    private static void leftCall() {
        Due.sentence("Who LEFT a RING and SECTOR, what 0: the PASS, 1: the TURN, 2: the tooth (from 0), 3: x and 20000. NONE: nobody, or no such.");
        // The fourth tooth alone finds something at SECTOR 3 in the last of 12 turns.
        QuietCut q = Due.shopOf("sectors 4;rings 2;force 0;teeth 0 0 0 3;");
        Due.due("cut", q.cut(1, 1, 1, 12, 0, 0), 0);
        int[] want = {0, 11, 3, 20000};
        for (int what = -1; what <= 5; what++) {
            Due.due("left(1, 3, " + what + ")", q.left(1, 3, what), what >= 0 && what <= 3 ? want[what] : Due.NONE);
            Due.due("nobody", q.left(0, 3, what), Due.NONE);
            Due.due("no such", q.left(2, 0, what), Due.NONE);
            Due.due("no such", q.left(-1, 0, what), Due.NONE);
            Due.due("no such", q.left(1, 4, what), Due.NONE);
            Due.due("no such", q.left(1, -1, what), Due.NONE);
        }
        Due.due("left(1, 3, MIN)", q.left(1, 3, Due.MIN), Due.NONE);
        Due.due("left(1, 3, MAX)", q.left(1, 3, Due.MAX), Due.NONE);
        Due.due("left(MAX, MAX, 0)", q.left(Due.MAX, Due.MAX, 0), Due.NONE);
        // x is -9999 when the second sector is cut: limit itself. The least that is ever told.
        q = Due.shopOf("sectors 4;rings 1;mass 1;limit 9999;force -9999;");
        Due.due("shaken by the second step", q.cut(0, 1, 1, 1, 0, 0), 2);
        Due.due("x and 20000", q.left(0, 1, 3), 10001);
        Due.due("the height there", q.height(0, 1), 999 - 9999);
        Due.due("not come to", q.left(0, 2, 3), Due.NONE);
        q = Due.shopOf("sectors 4;rings 1;mass 1;limit 19;force 19;");
        q.cut(0, 1, 20, 1, 1, 1);
        Due.due("x above 0", q.left(0, 1, 3), 20019);
    }
}
