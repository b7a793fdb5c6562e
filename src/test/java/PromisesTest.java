/** Each promise of the document in turn: ordinary inputs, the edges that it names, wrong inputs. */
public final class PromisesTest {
    private static final int NONE = -1, RANGE = -2, FULL = -3, STATE = -4;
    // One sector's step moves x by (chip / 2 - 4 x), as mass is 1: small enough to reckon by hand.
    private static final String SMALL = "sectors 4;rings 2;mass 1;stiff 4 4;damp 0 1;limit 50;mark 10;turns 1;sway 0;force h/2;";
    // Nothing moves the tool: every pass leaves a flat ring and is quiet.
    private static final String STILL = "sectors 4;rings 2;mass 1;force 0;turns 2;";

    private static final String BACK_AT_NINE = "sectors 4;rings 1;mass 1;stiff 0 0;damp 0 0;limit 9999;mark 0;turns 2;sway 3;force 5;wall l-996;";

    private static int promise;
    private static int wrong = 0;
    private static int looked = 0;

    private static void due(String call, long got, long want) {
        looked++;
        if (got != want) {
            wrong++;
            System.out.println("promise " + promise + ": " + call + " answered " + got + ", due is " + want);
        }
    }

    private static void feed(QuietCut q, String text) {
        for (int i = 0; i < text.length(); i += 20) {
            int[] five = new int[5];
            for (int j = 0; j < 20; j++) {
                five[j / 4] = five[j / 4] << 8 | (i + j < text.length() ? text.charAt(i + j) : 0);
            }
            q.feed(five[0], five[1], five[2], five[3], five[4]);
        }
        q.end(text.length());
    }

    private static int shop(QuietCut q, String text) {
        feed(q, text);
        return q.shop();
    }

    private static QuietCut shopOf(String text) {
        QuietCut q = new QuietCut();
        int clauses = shop(q, text);
        due("shop() of " + text + " has a fault of kind " + q.fault(0) + " at " + q.fault(1) + ":", clauses < 0 ? clauses : 0, 0);
        return q;
    }

    private static int sound(QuietCut q, String text) {
        feed(q, text);
        return q.sound();
    }

    private static void dueFault(String text, int kind, int place) {
        QuietCut q = new QuietCut();
        due("shop() of " + text, shop(q, text), NONE);
        due("fault(0) of " + text, q.fault(0), kind);
        due("fault(1) of " + text, q.fault(1), place);
        due("the tape behind " + text, q.count(7), 0);
    }

    private static void dueSum(String text, int a, int b, int want) {
        due("force " + text + " of " + a + ", " + b, shopOf("force " + text + ";").tells(0, a, b), want);
    }

    public static void main(String[] args) {
        Runnable[] all = {PromisesTest::p1, PromisesTest::p2, PromisesTest::p3, PromisesTest::p4, PromisesTest::p5, PromisesTest::p6, PromisesTest::p7,
            PromisesTest::p8, PromisesTest::p9, PromisesTest::p10, PromisesTest::p11, PromisesTest::p12, PromisesTest::p13, PromisesTest::p14,
            PromisesTest::p15, PromisesTest::p16, PromisesTest::p17, PromisesTest::p18, PromisesTest::p19, PromisesTest::p20, PromisesTest::p21,
            PromisesTest::p22, PromisesTest::p23, PromisesTest::p24, PromisesTest::p25, PromisesTest::p26, PromisesTest::p27, PromisesTest::p28,
            PromisesTest::p29, PromisesTest::p30, PromisesTest::p31, PromisesTest::p32, PromisesTest::p33, PromisesTest::p34};
        for (promise = 1; promise <= all.length; promise++) {
            all[promise - 1].run();
        }
        System.out.println(wrong == 0 ? "all " + looked + " answers of the promises are as due" : wrong + " answers are not as due");
        if (wrong != 0) {
            System.exit(1);
        }
    }

    private static void p1() {
        QuietCut q = new QuietCut();
        int[] untold = {8, 3, 4, 8, 8, 2, 2, 500, 20, 4, 1, 1};
        for (int i = 0; i < untold.length; i++) {
            due("told(" + i + ")", q.told(i), untold[i]);
        }
        due("told(20)", q.told(20), 0);
        due("told(30)", q.told(30), 0);
        for (int r = 0; r < 3; r++) {
            for (int s = 0; s < 8; s++) {
                due("height", q.height(r, s), 1000);
                due("left", q.left(r, s, 0), NONE);
            }
        }
        for (int what = 0; what < 8; what++) {
            due("count(" + what + ")", q.count(what), 0);
        }
        due("tells(0, 7, 5)", q.tells(0, 7, 5), 7);
        due("tells(1, 7, 5)", q.tells(1, 7, 5), 0);
        due("tells(2, 7, 5)", q.tells(2, 7, 5), 0);
        due("fault(0)", q.fault(0), 0);
        due("fault(1)", q.fault(1), NONE);
        due("two objects share nothing", q.piece(200) + new QuietCut().height(0, 0), 1001);
    }

    private static void p2() {
        QuietCut q = new QuietCut();
        // "mass", " 7; ", blanks: the highest byte of each int is the first.
        due("feed", q.feed(0x6D617373, 0x20373B20, 0x20202020, 0x20202020, 0x0A0A0A0A), 20);
        due("feed", q.feed(0x72696E67, 0x7320323B, 0x20202020, 0x20202020, 0x20202020), 40);
        due("shop()", q.shop(), 2);
        due("told(2)", q.told(2), 7);
        due("told(1)", q.told(1), 2);
        for (int i = 1; i <= 50; i++) {
            due("feed no. " + i, q.feed(1, 2, 3, 4, 5), 20 * i);
        }
        due("feed beyond 1000", q.feed(1, 2, 3, 4, 5), FULL);
        due("count(7)", q.count(7), 1000);
        q.end(981);
        due("feed to 1001", q.feed(1, 2, 3, 4, 5), FULL);
        due("count(7)", q.count(7), 981);
        q.end(980);
        due("feed to 1000", q.feed(1, 2, 3, 4, 5), 1000);
    }

    private static void p3() {
        QuietCut q = new QuietCut();
        due("end(1) of nothing", q.end(1), NONE);
        due("end(0) of nothing", q.end(0), 0);
        q.feed(0x6D617373, 0x20373B21, 0, 0, 0);
        due("end(21)", q.end(21), NONE);
        due("end(-1)", q.end(-1), NONE);
        due("end(MIN)", q.end(Integer.MIN_VALUE), NONE);
        due("count(7)", q.count(7), 20);
        due("end(20)", q.end(20), 20);
        due("end(7)", q.end(7), 7);
        due("end(8)", q.end(8), NONE);
        due("shop()", q.shop(), 1);
        due("end(1) behind shop()", q.end(1), NONE);
    }

    private static void p4() {
        QuietCut q = new QuietCut();
        due("the empty text", shop(q, ""), 0);
        due("blanks alone", shop(q, " \n \n"), 0);
        due("without blanks", shop(q, "sectors4;rings2;teeth1 2;stiff 3 4;force-h;"), 5);
        due("told(21)", q.told(21), 2);
        due("blanks everywhere", shop(q, "\nmass \n 5 ;  force (\nh + w ) * - 2 ;"), 2);
        due("tells(0, 3, 4)", q.tells(0, 3, 4), -14);
        due("all clauses", shop(q, "sectors 16;rings 6;mass 99;stiff 197 200;damp 200 200;limit 9999;mark 9999;turns 12;teeth 15 15 0 1;sway 9 0 1 2 3 4;force h;wall l;wear h;"), 13);
        due("the least", shop(q, "sectors 4;rings 1;mass 1;stiff 0 0;damp 0 3;limit 1;mark 0;turns 1;teeth 0;sway 0;"), 10);
        due("leading zeros", shop(q, "mass 0012;"), 1);
        due("told(2)", q.told(2), 12);
        due("what is not told is as untold", q.told(1), 3);
        shopResets();
        shopFaults();
    }

    private static void shopResets() {
        QuietCut q = shopOf(SMALL + "wear h;");
        q.cut(0, 1, 4, 1, 4, 0);
        q.job(0, 1, 4, 1);
        q.offer(0, 1, 4, 1);
        q.heard(7, 0, 0);
        q.right(9, 0, 1);
        sound(q, "1 2 3");
        int wear = q.count(0);
        due("a shop with a fault", shop(q, "mass 5"), NONE);
        due("the shop stays", q.told(2), 1);
        due("the wear stays", q.count(0), wear);
        int[] kept = {1, 1, 1, 1, 1, 3};
        for (int what = 1; what <= 6; what++) {
            due("count(" + what + ") stays", q.count(what), kept[what - 1]);
        }
        due("height stays", q.height(0, 0), 996);
        due("a shop", shop(q, "rings 2;"), 1);
        for (int what = 0; what <= 5; what++) {
            due("count(" + what + ") is new", q.count(what), 0);
        }
        due("the sound stays", q.count(6), 3);
        due("height", q.height(0, 0), 1000);
        due("left", q.left(0, 0, 0), NONE);
        due("passed(6) stays", q.passed(6), 1);
        q.offer(0, 1, 4, 1);
        due("the latest step is 0 again", q.heard(0, 0, 0), 0);
    }

    private static void shopFaults() {
        dueFault("mass", 1, 4);
        dueFault("mass  ", 1, 6);
        dueFault("mass 5", 1, 6);
        dueFault("mass ;", 1, 5);
        dueFault("mass 5 6;", 1, 7);
        dueFault("mass 5;;", 1, 7);
        dueFault("Mass 5;", 1, 0);
        dueFault("mast 5;", 1, 0);
        dueFault("h;", 1, 0);
        dueFault("5;", 1, 0);
        dueFault("massmassm 5;", 1, 0);
        dueFault("massz 5;", 1, 0);
        dueFault("mass\t5;", 1, 4);
        dueFault("mass 5;\u00ff", 1, 7);
        dueFault("mass 5;\0", 1, 7);
        dueFault("limit 12345;", 1, 6);
        dueFault("limit 00005;", 1, 6);
        dueFault("stiff 3;", 1, 7);
        dueFault("stiff 3 4 5;", 1, 10);
        dueFault("teeth;", 1, 5);
        dueFault("teeth 1 -2;", 1, 8);
        dueFault("sway h;", 1, 5);
        dueFault("force h w;", 1, 8);
        dueFault("force hw;", 1, 6);
        dueFault("force l;", 1, 6);
        dueFault("wall h;", 1, 5);
        dueFault("wall w;", 1, 5);
        dueFault("wear w;", 1, 5);
        dueFault("force ;", 1, 6);
        dueFault("force ();", 1, 7);
        dueFault("force (h;", 1, 8);
        dueFault("force h);", 1, 7);
        dueFault("force h+;", 1, 8);
        dueFault("force h+*w;", 1, 8);
        dueFault("force +h;", 1, 6);
        dueFault("force (h", 1, 8);
        dueFault("force h(w);", 1, 7);
        dueFault("force 12345;", 1, 6);
        dueFault("sectors 3;", 2, 8);
        dueFault("sectors 17;", 2, 8);
        dueFault("rings 0;", 2, 6);
        dueFault("rings 7;", 2, 6);
        dueFault("mass 0;", 2, 5);
        dueFault("mass 100;", 2, 5);
        dueFault("stiff 201 201;", 2, 6);
        dueFault("stiff 5 4;", 2, 8);
        dueFault("stiff 5 9;", 2, 8);
        dueFault("stiff 199 201;", 2, 10);
        dueFault("damp 9 8;", 2, 7);
        dueFault("limit 0;", 2, 6);
        dueFault("turns 0;", 2, 6);
        dueFault("turns 13;", 2, 6);
        dueFault("teeth 1 16;", 2, 8);
        dueFault("sway 10;", 2, 5);
        dueFault("mass 5;rings 2;mass", 3, 15);
        dueFault("force h;force x", 3, 8);
        dueFault("teeth 1 2 3 4 5;", 4, 14);
        dueFault("sway 1 2 3 4 5 6 7;", 4, 17);
        dueFault("force h+h+h+h+h+h+h+h+h+h+h+h+h;", 4, 30);
        dueFault("wall (l+l+l)+(l+l+l)+(l+l+l)+(l+l+l)-1;", 4, 37);
        dueFault("force (((((h;", 4, 10);
        dueFault("force -----h;", 4, 10);
        dueFault("force -(-(-h;", 4, 10);
        dueFault("force (-(-(h;", 4, 10);
        // Of one token the least kind counts, and of two tokens the first.
        dueFault("teeth 1 2 3 4 16;", 2, 14);
        dueFault("force h+h+h+h+h+h+h+h+h+h+h+h+x;", 1, 30);
        dueFault("mass 100 x", 2, 5);
        faultsLeaveNothing();
        due("4 open at once, again and again", shop(new QuietCut(), "force ----h-----h*(-(-h))+((((w))));"), 1);
        due("12 of them", shop(new QuietCut(), "force h+h+h+h+h+h+h+h+h+h+h+h;wall l+l+l+l+l+l+l+l+l+l+l+1;"), 2);
    }

    /** What a sum with a fault had open, or waiting, is nothing to the next text. */
    private static void faultsLeaveNothing() {
        QuietCut q = new QuietCut();
        due("a fault", shop(q, "force h*(w+"), NONE);
        due("another fault", shop(q, "force h);"), NONE);
        due("its place", q.fault(1), 7);
        due("a fault", shop(q, "force ----"), NONE);
        due("none", shop(q, "force ----h-2;"), 1);
        due("tells(0, 7, 0)", q.tells(0, 7, 0), 5);
        due("a fault", shop(q, "wear h+h+h+h+h+h+h+h+h+h+h+h"), NONE);
        due("none", shop(q, "wear h+h+h+h+h+h+h+h+h+h+h+h;"), 1);
        due("tells(2, 1, 0)", q.tells(2, 1, 0), 12);
        due("untold again", shop(q, ""), 0);
        due("tells(2, 1, 0)", q.tells(2, 1, 0), 0);
        due("a fault", shop(q, "teeth 1 2 3;mass 0;"), NONE);
        due("none", shop(q, "teeth 4;"), 1);
        due("told(21)", q.told(21), NONE);
        due("none", shop(q, "teeth 4;sway 7;wall l;wear h;force w;"), 5);
        due("all untold again", shop(q, ""), 0);
        due("told(20)", q.told(20), 0);
        due("told(30)", q.told(30), 0);
        due("tells(0, 5, 6)", q.tells(0, 5, 6), 5);
        due("tells(1, 5, 6)", q.tells(1, 5, 6), 0);
        due("tells(2, 5, 6)", q.tells(2, 5, 6), 0);
    }

    private static void p5() {
        QuietCut q = new QuietCut();
        due("ahead of any", q.fault(0), 0);
        due("ahead of any", q.fault(1), NONE);
        due("fault(2)", q.fault(2), NONE);
        due("fault(-1)", q.fault(-1), NONE);
        shop(q, "mass 5;x");
        due("fault(0)", q.fault(0), 1);
        due("fault(1)", q.fault(1), 7);
        due("fault(2)", q.fault(2), NONE);
        sound(q, "1 2");
        due("without", q.fault(0), 0);
        due("without", q.fault(1), NONE);
        sound(q, "1 2 -");
        due("of a sound", q.fault(0), 1);
        due("of a sound", q.fault(1), 5);
        shop(q, "");
        due("without", q.fault(0), 0);
    }

    private static void p6() {
        QuietCut q = shopOf("turns 3;mark 77;limit 66;damp 5 7;stiff 10 13;mass 9;rings 5;sectors 12;teeth 3 2 1;sway 5 6 7 8;");
        int[] want = {12, 5, 9, 10, 13, 5, 7, 66, 77, 3, 3, 4};
        for (int i = 0; i < want.length; i++) {
            due("told(" + i + ")", q.told(i), want[i]);
        }
        int[] whats = {20, 21, 22, 23, 24, 30, 31, 32, 33, 34, 35, 36, 12, 19, 29, -1, 1000, Integer.MIN_VALUE};
        int[] answers = {3, 2, 1, NONE, NONE, 5, 6, 7, 8, NONE, NONE, NONE, NONE, NONE, NONE, NONE, NONE, NONE};
        for (int i = 0; i < whats.length; i++) {
            due("told(" + whats[i] + ")", q.told(whats[i]), answers[i]);
        }
        shop(q, "teeth 9;sway 1 2 3 4 5 6;");
        due("told(21)", q.told(21), NONE);
        due("told(35)", q.told(35), 6);
        due("told(36)", q.told(36), NONE);
    }

    private static void p7() {
        dueSum("h+w*2", 3, 4, 11);
        dueSum("(h+w)*2", 3, 4, 14);
        dueSum("h-w-1", 10, 4, 5);
        dueSum("h/w/2", 40, 4, 5);
        dueSum("h/w*w", 10, 4, 8);
        dueSum("h*w/3%4", 7, 5, 3);
        dueSum("h-w*3+w%3", 10, 5, -3);
        dueSum("-h/w", 7, 2, -3);
        dueSum("h%w", -7, 3, -1);
        dueSum("h%w", 7, -3, 1);
        dueSum("h/w", 7, 0, 0);
        dueSum("h%w", 7, 0, 0);
        dueSum("1+h/(w-w)", 7, 3, 1);
        dueSum("h*h", 65536, 0, 0);
        dueSum("h+w", Integer.MAX_VALUE, 1, Integer.MIN_VALUE);
        dueSum("-h", Integer.MIN_VALUE, 0, Integer.MIN_VALUE);
        dueSum("h/w", Integer.MIN_VALUE, -1, Integer.MIN_VALUE);
        dueSum("h%w", Integer.MIN_VALUE, -1, 0);
        dueSum("--h-(-w)", 5, 6, 11);
        dueSum("2-(3-(4-(5-h)))", 1, 0, -1);
        dueSum("-(h+1)*-2", 5, 0, 12);
        dueSum("9999", 5, 0, 9999);
        QuietCut q = shopOf("wall l*10+g;wear h+1;");
        due("wall", q.tells(1, 3, 4), 34);
        due("wear", q.tells(2, 3, 99), 4);
        due("wear, nothing is held within bounds", q.tells(2, -300, 0), -299);
        due("another", q.tells(3, 3, 4), 0);
        due("another", q.tells(-1, 3, 4), 0);
        due("force of a new text", q.tells(0, 12345, 1), 12345);
    }

    private static void p8() {
        QuietCut q = shopOf(SMALL + "wear h;");
        q.cut(0, 1, 4, 1, 4, 0);
        q.job(0, 1, 1, 1);
        q.offer(0, 1, 1, 1);
        due("piece(99)", q.piece(99), RANGE);
        due("piece(5001)", q.piece(5001), RANGE);
        due("piece(-1)", q.piece(-1), RANGE);
        due("count(1)", q.count(1), 1);
        due("height", q.height(0, 0), 996);
        due("piece(100)", q.piece(100), 1);
        due("height", q.height(0, 0), 100);
        due("height", q.height(1, 3), 100);
        due("count(0)", q.count(0), 0);
        due("count(1)", q.count(1), 0);
        due("left", q.left(0, 0, 0), NONE);
        due("jobs stay", q.count(2), 1);
        due("offers stay", q.count(3), 1);
        due("piece(5000)", q.piece(5000), 1);
        due("height", q.height(0, 0), 5000);
        q.cut(0, 1, 4, 1, 4, 0);
        due("passes are numbered anew", q.left(0, 0, 0), 0);
    }

    private static void p9() {
        QuietCut q = shopOf("sectors 4;rings 2;");
        due("height(1, 3)", q.height(1, 3), 1000);
        int[][] none = {{2, 0}, {-1, 0}, {0, 4}, {0, -1}, {Integer.MAX_VALUE, 0}, {0, Integer.MIN_VALUE}};
        for (int[] place : none) {
            due("height(" + place[0] + ", " + place[1] + ")", q.height(place[0], place[1]), -100000);
        }
        // x is -800 when the second sector is cut: a height may fall below 0.
        q = shopOf("sectors 4;mass 1;limit 9999;force -800;");
        due("piece(100)", q.piece(100), 1);
        due("cut", q.cut(0, 1, 1, 1, 0, 0), 1);
        due("height(0, 0)", q.height(0, 0), 99);
        due("height(0, 1)", q.height(0, 1), -701);
    }

    private static void p10() {
        QuietCut q = shopOf("sectors 4;rings 2;");
        q.cut(1, 1, 4, 1, 4, 0);
        due("left", q.left(1, 2, 0), 0);
        int was = q.height(1, 2);
        due("set", q.set(1, 2, 5000), was);
        due("set", q.set(1, 2, 100), 5000);
        due("height", q.height(1, 2), 100);
        due("left", q.left(1, 2, 0), NONE);
        due("left beside it", q.left(1, 1, 0), 0);
        due("set too low", q.set(1, 2, 99), -100000);
        due("set too high", q.set(1, 2, 5001), -100000);
        due("set nowhere", q.set(2, 0, 500), -100000);
        due("set nowhere", q.set(0, 4, 500), -100000);
        due("set nowhere", q.set(-1, 0, 500), -100000);
        due("set nowhere", q.set(0, -1, 500), -100000);
        due("height", q.height(1, 2), 100);
    }

    private static void p11() {
        QuietCut q = shopOf("sectors 4;mass 99;wear h*5000;force 0;");
        due("change()", q.change(), 0);
        q.cut(0, 1, 1, 1, 0, 0);
        due("count(0)", q.count(0), 20000);
        q.cut(0, 1, 1, 1, 0, 0);
        due("never above 30000", q.count(0), 30000);
        due("change()", q.change(), 30000);
        due("count(0)", q.count(0), 0);
        due("change()", q.change(), 0);
        due("the pass stays", q.count(1), 2);
    }

    private static void p12() {
        QuietCut q = shopOf(SMALL);
        due("quiet", q.attempt(0, 1, 4, 1, 4, 0), 0);
        due("marked", q.attempt(0, 1, 20, 1, 0, 3), 1);
        due("shaken", q.attempt(0, 9, 20, 12, 0, 0), 2);
        int[][] none = {{-1, 1, 4, 1, 4, 0}, {2, 1, 4, 1, 4, 0}, {0, 0, 4, 1, 4, 0}, {0, 10, 4, 1, 4, 0}, {0, 1, 0, 1, 4, 0}, {0, 1, 21, 1, 4, 0},
            {0, 1, 4, 0, 4, 0}, {0, 1, 4, 13, 4, 0}, {0, 1, 4, 1, -1, 0}, {0, 1, 4, 1, 301, 0}, {0, 1, 4, 1, 4, -1}, {0, 1, 4, 1, 4, 301}};
        for (int[] p : none) {
            due("attempt of none", q.attempt(p[0], p[1], p[2], p[3], p[4], p[5]), RANGE);
            due("cut of none", q.cut(p[0], p[1], p[2], p[3], p[4], p[5]), RANGE);
            due("until of none", q.until(p[0], p[1], p[2], p[3], p[4], p[5]), RANGE);
        }
        for (int s = 0; s < 4; s++) {
            due("nothing is changed", q.height(0, s), 1000);
            due("nobody left it", q.left(0, s, 0), NONE);
        }
        due("nothing is counted", q.count(1), 0);
        levels();
        forcesAndWalls();
        gaps();
        swayAndTeeth();
    }

    private static void levels() {
        QuietCut q = shopOf(STILL);
        q.piece(100);
        due("LEVEL 100 less 99", q.attempt(0, 1, 9, 11, 0, 0), 0);
        due("LEVEL 100 less 100", q.attempt(0, 1, 20, 5, 0, 0), STATE);
        q.set(0, 2, 101);
        due("LEVEL 101 less 100", q.attempt(0, 1, 20, 5, 0, 0), 0);
        due("the one that is highest alone is cut in the first turn", q.attempt(0, 1, 1, 1, 0, 0), 0);
        due("the others are out", q.passed(2), 3);
        due("wave", q.passed(0), 0);
        // mark itself is quiet, one above is not.
        q = shopOf(STILL + "mark 5;");
        q.set(0, 0, 994);
        due("a wave of 5", q.attempt(0, 1, 1, 1, 0, 0), 0);
        due("wave 5", q.passed(0), 5);
        q.set(0, 0, 993);
        due("wave 6 is marked", q.attempt(0, 1, 1, 1, 0, 0), 1);
        // x = limit is not shaken, one above is.
        q = shopOf("sectors 4;mass 1;limit 7;force 7;mark 9999;");
        due("x is 7, then 14", q.attempt(0, 1, 1, 1, 0, 0), 2);
        due("time", q.passed(1), 2);
        due("x", q.passed(4), 14);
        q = shopOf("sectors 4;mass 1;limit 7;force 8;");
        due("x is 8", q.attempt(0, 1, 1, 1, 0, 0), 2);
        due("time", q.passed(1), 1);
        q = shopOf("sectors 4;mass 1;limit 7;force -8;");
        due("x is -8", q.attempt(0, 1, 1, 1, 0, 0), 2);
        due("x", q.passed(4), -8);
        due("its greatest", q.passed(3), 8);
    }

    private static void forcesAndWalls() {
        // A force counts to 9999 either way; one step, mass 1, so that x is the force.
        QuietCut q = shopOf("sectors 4;mass 1;limit 9999;force 9999*9;mark 9999;");
        q.attempt(0, 1, 1, 1, 0, 0);
        due("x", q.passed(3), 19998);
        q = shopOf("sectors 4;mass 1;limit 9999;force -9999*9;mark 9999;");
        q.attempt(0, 1, 1, 1, 0, 0);
        due("v -9999, x -9999; v -19998, x -29997", q.passed(4), -29997);
        // Each of two teeth at one sector: the second has nothing left to cut.
        q = shopOf("sectors 4;mass 1;force 5;teeth 0 4;");
        q.attempt(0, 1, 1, 1, 0, 0);
        due("out", q.passed(2) >= 4 ? 1 : 0, 1);
        // The wall counts by the height at the sector as it is cut and by the gap: K is 2 from the wall alone.
        q = shopOf("sectors 4;rings 3;mass 1;force 4;wall (l-g)/100;limit 9999;mark 9999;");
        q.set(0, 1, 799);
        q.set(2, 3, 790);
        q.set(1, 0, 700);
        due("attempt", q.attempt(1, 2, 1, 1, 0, 0), 0);
        // Sector 0 stands at 700, so it is out: nothing moves. Sector 1: force 4, K = (999 - 790) / 100 = 2:
        // v 4, x 4; v 4 + 4 - 8 = 0, x 4. Sector 2: out, K 2: v -8, x -4; v 0, x -4. Sector 3: to 995, force 4,
        // K 2: v 12, x 8; v 12 + 4 - 16 = 0, x 8.
        due("x at the end", q.passed(4), 8);
        due("time", q.passed(1), 8);
        due("out", q.passed(2), 2);
        // A wall below 0 counts as 0, one above 999 as 999.
        q = shopOf("sectors 4;rings 1;mass 1;force 1;wall 0-5;limit 9999;mark 9999;");
        q.attempt(0, 1, 20, 1, 0, 0);
        due("no wall", q.passed(4), 10);
        q = shopOf("sectors 4;rings 1;mass 99;force 99;wall 9999;limit 9999;mark 9999;");
        q.attempt(0, 2, 20, 1, 0, 0);
        // v 1, x 1; then (99 - 999) / 99 = -9: v -8, x -7: what is seen is that K is 999, not 9999.
        due("a wall of 999", q.attempt(0, 2, 20, 1, 0, 0) >= 0 ? firstSwing() : 0, -7);
        // The gap is the level where there is no other ring.
        q = shopOf("sectors 4;rings 1;mass 1;force 3;wall g-999;limit 9999;mark 9999;");
        q.attempt(0, 2, 20, 1, 0, 0);
        due("K is 1: x 3, 3, 3, 3 ..", q.passed(3), 6);
    }

    /** The wall counts by the gap alone: that shows as a stiffness. The ring that is not next to it is the lowest. */
    private static void gaps() {
        dueGap(1190, new int[] {1000, 1200, 100}, 0, 10);
        dueGap(1190, new int[] {100, 1200, 1000}, 2, 10);
        dueGap(790, new int[] {1000, 800, 100}, 0, 10);
        dueGap(790, new int[] {800, 1000, 1200}, 1, 10);
        dueGap(790, new int[] {1200, 1000, 800}, 1, 10);
        dueGap(1190, new int[] {800, 1000, 1200}, 1, 0);
    }

    private static void dueGap(int less, int[] heights, int ring, int k) {
        String text = "sectors 4;rings 3;mass 1;force 50;limit 9999;mark 9999;";
        QuietCut q = shopOf(text + "wall g-" + less + ";");
        for (int r = 0; r < 3; r++) {
            for (int s = 0; s < 4; s++) {
                q.set(r, s, heights[r]);
            }
        }
        q.attempt(ring, 2, 20, 1, 0, 0);
        QuietCut plain = shopOf(text);
        plain.attempt(0, 2, 20, 1, k, 0);
        due("x at the end of ring " + ring + " with a wall of the gap less " + less, q.passed(4), plain.passed(4));
    }

    /** x behind the second step under a wall of 9999, by a limit that ends the pass there. */
    private static int firstSwing() {
        QuietCut q = shopOf("sectors 4;rings 1;mass 99;force 99;wall 9999;limit 6;");
        due("shaken", q.attempt(0, 2, 20, 1, 0, 0), 2);
        return q.passed(4);
    }

    private static void swayAndTeeth() {
        QuietCut q = shopOf("sectors 5;force 0;sway 1 0 3;");
        q.attempt(0, 2, 1, 1, 0, 0);
        due("1 0 3 1 0 and 5 times 2", q.passed(1), 15);
        q.attempt(0, 2, 1, 3, 0, 0);
        due("the sway goes on from turn to turn", q.passed(1), 30 + 4 * 5);
        q.attempt(0, 2, 1, 2, 0, 0);
        due("1 0 3 1 0 3 1 0 3 1", q.passed(1), 20 + 13);
        // Teeth 0 and 2: sector 0 is cut by the first tooth, 2 and 3 by the second ahead of the first's coming.
        q = shopOf("sectors 4;force 0;teeth 0 2;");
        due("cut", q.cut(0, 1, 1, 1, 0, 0), 0);
        int[] tooth = {0, 0, 1, 1};
        for (int s = 0; s < 4; s++) {
            due("left(0, " + s + ", 2)", q.left(0, s, 2), tooth[s]);
        }
        due("out", q.passed(2), 4);
        // A tooth's number is taken modulo the sectors.
        q = shopOf("sectors 4;force 0;teeth 0 15;");
        q.cut(0, 1, 1, 1, 0, 0);
        due("sector 3 by the second tooth", q.left(0, 3, 2), 1);
        due("sector 0 by the first", q.left(0, 0, 2), 0);
        due("sector 1 by the first", q.left(0, 1, 2), 0);
        q = shopOf("sectors 5;force 0;teeth 0 1;");
        q.cut(0, 1, 1, 1, 0, 0);
        int[] ahead = {0, 1, 1, 1, 1};
        for (int s = 0; s < 5; s++) {
            due("left(0, " + s + ", 2)", q.left(0, s, 2), ahead[s]);
        }
        due("out: the first tooth but once, the second at the end", q.passed(2), 5);
        q.attempt(0, 1, 1, 1, 0, 0);
        due("out is counted anew", q.passed(2), 5);
    }

    private static void p13() {
        QuietCut q = shopOf(SMALL);
        due("cut", q.cut(0, 1, 4, 1, 4, 0), 0);
        // x 0: chip 4, force 2: v 2, x 2. Chip 2, force 1: v 2 + 1 - 8 = -5, x -3. Chip 7, force 3:
        // v -5 + 3 + 12 = 10, x 7. Then out: v 10 - 28 = -18, x -11.
        int[] byHand = {996, 998, 993, 1000};
        for (int s = 0; s < 4; s++) {
            due("height(0, " + s + ")", q.height(0, s), byHand[s]);
            due("height(1, " + s + ")", q.height(1, s), 1000);
        }
        due("x at the end", q.passed(4), -11);
        due("count(1)", q.count(1), 1);
        // Level is 1000 still, by sector 3. Chip 16, force 8: x 8, 24, 48, 80.
        due("shaken", q.cut(0, 9, 20, 12, 0, 0), 2);
        due("its time", q.passed(1), 4);
        due("a shaken one is counted too", q.count(1), 2);
        due("what it cut stays cut", q.height(0, 0), 980);
        due("and is left by it", q.left(0, 0, 0), 1);
        due("what it did not come to stays", q.height(0, 1), 998);
        due("and is left by the one before", q.left(0, 1, 0), 0);
        q = shopOf(STILL);
        q.piece(100);
        due("can't be", q.cut(0, 1, 20, 12, 0, 0), STATE);
        due("count(1)", q.count(1), 0);
        q.piece(5000);
        for (int i = 0; i < 200; i++) {
            due("cut no. " + i, q.cut(0, 1, 1, 1, 0, 0), 0);
        }
        due("the 201st", q.cut(0, 1, 1, 1, 0, 0), FULL);
        due("the 201st, none", q.cut(0, 0, 1, 1, 0, 0), RANGE);
        due("count(1)", q.count(1), 200);
        due("height", q.height(0, 0), 4800);
        due("left", q.left(0, 0, 0), 199);
        due("one that is tried", q.attempt(0, 1, 1, 1, 0, 0), 0);
        q.piece(5000);
        due("a fresh piece", q.cut(0, 1, 1, 1, 0, 0), 0);
    }

    private static void p14() {
        QuietCut q = shopOf(SMALL + "wear h;");
        for (int what = 0; what <= 6; what++) {
            due("ahead of any", q.passed(what), -1000000);
        }
        q.cut(0, 0, 4, 1, 4, 0);
        q.piece(100);
        q.cut(0, 1, 20, 12, 4, 0);
        due("none that told a verdict", q.passed(0), -1000000);
        q.piece(1000);
        due("attempt", q.attempt(0, 1, 4, 1, 4, 0), 0);
        // As reckoned by hand under promise 13; wear: 4 + 2 + 7.
        int[] want = {7, 4, 1, 11, -11, 13, 1};
        for (int what = 0; what <= 6; what++) {
            due("passed(" + what + ")", q.passed(what), want[what]);
        }
        due("passed(7)", q.passed(7), -1000000);
        due("passed(-1)", q.passed(-1), -1000000);
        due("wear is only tried", q.count(0), 0);
        q.attempt(0, 10, 4, 1, 4, 0);
        q.sure(0, 3, 9, 2);
        q.deepest(0, 1);
        q.until(0, 1, 4, 1, 4, 0);
        due("the latest that told a verdict stays", q.passed(0), 7);
        due("shaken", q.attempt(0, 9, 20, 12, 0, 0), 2);
        due("turns begun", q.passed(6), 1);
        due("time", q.passed(1) < 9 * 4 * 12 ? 1 : 0, 1);
        due("beyond the limit", q.passed(3) > 50 ? 1 : 0, 1);
        due("a small one behind it", q.attempt(0, 1, 4, 1, 4, 0), 0);
        due("its greatest is its own", q.passed(3), 11);
        q = shopOf(STILL + "wear h;");
        q.cut(0, 1, 3, 4, 0, 0);
        due("turns begun", q.passed(6), 4);
        due("wear", q.passed(5), 48);
        q.attempt(0, 1, 3, 1, 0, 0);
        due("wear goes on from what it was", q.passed(5), 60);
        due("count(0)", q.count(0), 48);
    }

    private static void p15() {
        QuietCut q = shopOf(SMALL);
        due("nobody", q.left(0, 0, 0), NONE);
        q.cut(0, 1, 4, 1, 4, 0);
        int[] x = {20000, 20002, 19997};
        for (int s = 0; s < 3; s++) {
            due("pass", q.left(0, s, 0), 0);
            due("turn", q.left(0, s, 1), 0);
            due("tooth", q.left(0, s, 2), 0);
            due("x", q.left(0, s, 3), x[s]);
        }
        for (int what = 0; what < 4; what++) {
            due("the one that was out", q.left(0, 3, what), NONE);
        }
        due("no such", q.left(0, 0, 4), NONE);
        due("no such", q.left(0, 0, -1), NONE);
        due("no such", q.left(0, 4, 0), NONE);
        due("no such", q.left(2, 0, 0), NONE);
        due("no such", q.left(-1, 0, 0), NONE);
        due("no such", q.left(0, -1, 0), NONE);
        q.attempt(0, 1, 20, 1, 4, 0);
        due("one that is tried leaves nothing", q.left(0, 0, 0), 0);
        q = shopOf(STILL);
        q.cut(0, 1, 3, 1, 0, 0);
        q.cut(1, 1, 3, 2, 0, 0);
        due("pass", q.left(1, 2, 0), 1);
        due("turn", q.left(1, 2, 1), 1);
        due("pass", q.left(0, 2, 0), 0);
        q.change();
        due("a new tool changes nothing of it", q.left(1, 2, 0), 1);
    }

    private static void p16() {
        QuietCut q = shopOf(SMALL);
        due("attempt", q.attempt(0, 1, 20, 1, 4, 0) == 0 ? 1 : 0, 0);
        due("attempt", q.attempt(0, 1, 4, 1, 4, 0), 0);
        due("sure, for both", q.sure(0, 1, 4, 1), q.attempt(0, 1, 4, 1, 4, 1) == 0 ? 1 : 2);
        due("none", q.sure(0, 9, 20, 12), 0);
        spansOfSure();
        q = shopOf(STILL);
        due("all", q.sure(1, 9, 20, 12), 1);
        due("none such", q.sure(2, 9, 20, 12), RANGE);
        due("none such", q.sure(0, 0, 20, 12), RANGE);
        due("none such", q.sure(0, 9, 21, 12), RANGE);
        due("none such", q.sure(0, 9, 20, 13), RANGE);
        q.piece(100);
        due("can't be", q.sure(0, 9, 20, 12), STATE);
        due("nothing is changed", q.height(0, 0), 100);
    }

    // With force 0 but for stiffness nothing would move: here a damping of 3 shakes, less does not.
    private static void spansOfSure() {
        QuietCut q = shopOf("sectors 4;rings 1;mass 1;stiff 0 3;damp 0 3;limit 60;mark 60;force h/2;turns 2;");
        int quiet = 0;
        for (int k = 0; k <= 3; k++) {
            for (int d = 0; d <= 3; d++) {
                quiet += q.attempt(0, 2, 5, 2, k, d) == 0 ? 1 : 0;
            }
        }
        due("some of 16 are quiet", quiet > 0 && quiet < 16 ? 1 : 0, 1);
        due("some", q.sure(0, 2, 5, 2), 2);
        // Only the last pair of the spans is not quiet, or only the first is.
        for (int k = 0; k <= 3; k++) {
            for (int d = 0; d <= 3; d++) {
                int verdict = q.attempt(0, 2, 5, 2, k, d);
                QuietCut one = shopOf("sectors 4;rings 1;mass 1;stiff " + k + " " + k + ";damp " + d + " " + d + ";limit 60;mark 60;force h/2;turns 2;");
                due("one pair " + k + ", " + d, one.sure(0, 2, 5, 2), verdict == 0 ? 1 : 0);
            }
        }
    }

    private static void p17() {
        QuietCut q = shopOf(STILL);
        due("deepest", q.deepest(0, 1), 20);
        due("deepest", q.deepest(1, 9), 20);
        due("no ring", q.deepest(2, 1), RANGE);
        due("no ring", q.deepest(-1, 1), RANGE);
        due("no speed", q.deepest(0, 0), RANGE);
        due("no speed", q.deepest(0, 10), RANGE);
        q.piece(100);
        due("2 turns can always be", q.deepest(0, 1), 20);
        q = shopOf("sectors 4;force 0;turns 12;");
        q.piece(100);
        due("12 turns: 8 times 12 is 96", q.deepest(0, 1), 8);
        // A mark of 0 and a low place that only a feed of 7 or more comes down to.
        q = shopOf("sectors 4;force 0;turns 1;mark 0;");
        q.set(0, 1, 993);
        due("deepest", q.deepest(0, 1), 20);
        q.set(0, 1, 979);
        due("none is so deep", q.deepest(0, 1), NONE);
        due("the other rings are", q.deepest(1, 1), 20);
        // The greatest that is quiet, though greater ones are not: force moves the tool only for chips above 6.
        q = shopOf("sectors 4;mass 1;force h/7*400;turns 1;");
        due("deepest", q.deepest(0, 1), 6);
    }

    private static void p18() {
        QuietCut q = shopOf(STILL);
        due("the same depth in the least time", q.best(0), 1);
        due("no ring", q.best(2), RANGE);
        due("no ring", q.best(-1), RANGE);
        q = shopOf("sectors 4;force 0;turns 1;mark 0;");
        q.set(0, 1, 979);
        due("none", q.best(0), NONE);
        due("another ring", q.best(1), 1);
        // Each sector has 12 steps at speed 9 alone, which take x back to 0 with K 3 (turn 0) and K 2 (turn 1).
        q = shopOf(BACK_AT_NINE);
        due("the last speed", q.best(0), 9);
        due("its deepest", q.deepest(0, 9), 1);
        due("no other's", q.deepest(0, 3), NONE);
        bestOverTime("sectors 6;rings 1;mass 3;stiff 6 6;damp 2 3;limit 99;mark 4;turns 2;force h*2;");
        bestOverTime("sectors 6;rings 1;mass 2;stiff 2 2;damp 3 3;limit 99;mark 3;turns 2;force h*2;");
        bestOverTime("sectors 5;rings 1;mass 3;stiff 3 4;damp 1 2;limit 300;mark 6;turns 2;sway 3 0 1;force h*2/3;");
        bestOverTime("sectors 4;rings 2;mass 9;stiff 6 8;damp 3 5;limit 300;mark 4;turns 3;force h;");
        bestOverTime("sectors 7;rings 1;mass 20;stiff 9 9;damp 9 9;limit 300;mark 3;turns 3;sway 9;force h*3;");
    }

    private static void bestOverTime(String text) {
        QuietCut q = shopOf(text);
        int best = NONE;
        long feed = 0, time = 1;
        int sectors = q.told(0) * q.told(9), many = q.told(11), sway = 0;
        for (int i = 0; i < sectors; i++) {
            sway += q.told(30 + i % many);
        }
        for (int speed = 1; speed <= 9; speed++) {
            long t = sway + (long) speed * sectors;
            long d = q.deepest(0, speed);
            if (d > 0 && d * time > feed * t) {
                best = speed;
                feed = d;
                time = t;
            }
        }
        due("best(0) of " + text, q.best(0), best);
    }

    private static void p19() {
        QuietCut q = shopOf(STILL);
        // 2 turns of 4 sectors at speed 1: 8 steps a pass.
        due("plan of 2", q.plan(0, 2), 8);
        due("plan of 40", q.plan(0, 40), 8);
        due("plan of 42", q.plan(0, 42), 16);
        due("plan of 400", q.plan(0, 400), 80);
        due("no odd depth", q.plan(0, 41), NONE);
        due("too deep", q.plan(0, 401), RANGE);
        due("nothing", q.plan(0, 0), RANGE);
        due("no ring", q.plan(2, 40), RANGE);
        due("no ring", q.plan(-1, 40), RANGE);
        // Only feeds of 3 and 5 leave the ring flat enough: nothing of 1, 2, 4, 7 can be made of them.
        q = shopOf("sectors 4;rings 1;mass 1;turns 1;mark 0;force h-3-h/5*2;");
        due("plan of 4", q.plan(0, 4), NONE);
        due("plan of 3", q.plan(0, 3) > 0 ? 1 : 0, 1);
        q = shopOf(STILL);
        q.plan(0, 40);
        shop(q, BACK_AT_NINE);
        due("the last speed", q.plan(0, 2), 96);
        due("what was quiet in the shop before is nothing", q.plan(0, 4), 192);
        due("the sway counts", shopOf("sectors 4;force 0;turns 1;sway 2 3;").plan(0, 1), 4 + 10);
        due("a piece that can't be cut so deep gives a plan all the same", lowPlan(), 4 * 20);
    }

    // Each pass is looked at as if it were the first: 20 of them on a piece of 100.
    private static int lowPlan() {
        QuietCut q = shopOf("sectors 4;force 0;turns 1;");
        q.piece(100);
        return q.plan(0, 400);
    }

    private static void p20() {
        QuietCut q = shopOf(STILL);
        due("ahead of any", q.planned(0), NONE);
        due("ahead of any", q.planned(10), NONE);
        q.plan(0, 41);
        due("one without a time", q.planned(0), NONE);
        q.plan(0, 100);
        // 50 in feeds: three of speed 1 (20 and the feed), the least first.
        int[] want = {3, 30, 40, 40};
        due("planned(0)", q.planned(0), want[0]);
        for (int i = 0; i < 3; i++) {
            due("planned(" + (10 + i) + ")", q.planned(10 + i), want[1 + i]);
        }
        int[] none = {13, 9, 1, -1, 500, Integer.MAX_VALUE, Integer.MIN_VALUE};
        for (int what : none) {
            due("planned(" + what + ")", q.planned(what), NONE);
        }
        q.plan(0, 401);
        q.plan(0, 43);
        due("the latest with a time stays", q.planned(0), 3);
        q.plan(1, 6);
        due("planned(0)", q.planned(0), 1);
        due("planned(10)", q.planned(10), 23);
        due("planned(11)", q.planned(11), NONE);
        // Feed 2 is not pushed; all others come back to x 0 in 3 steps: 6 at speed 3 takes the time of 2, 2, 2 at speed 1.
        q = shopOf("sectors 4;rings 1;mass 1;stiff 3 3;damp 0 0;limit 9999;mark 0;turns 1;force h-2;");
        due("plan of 6", q.plan(0, 6), 12);
        due("the fewest", q.planned(0), 1);
        due("20 times 3 and 6", q.planned(10), 66);
        due("plan of 4", q.plan(0, 4), 8);
        due("planned(0)", q.planned(0), 2);
        due("plan of 8", q.plan(0, 8), 12);
        due("planned(10)", q.planned(10), 68);
        due("plan of 22", q.plan(0, 22), 16);
        due("planned(0)", q.planned(0), 2);
        due("the least first: 20 and 2", q.planned(10), 22);
        due("then 60 and 20", q.planned(11), 80);
        due("plan of 23", q.plan(0, 23), 20);
        due("planned(0)", q.planned(0), 3);
        due("planned(12)", q.planned(12), 79);
        // Feed 1 is quiet at speed 1, 4 to 7 at speed 2: 4, 5 takes the time of 7, 1, 1 in fewer passes.
        q = shopOf("sectors 7;rings 1;mass 1;stiff 1 1;damp 1 1;limit 99;mark 0;turns 1;force h*2/3;wall (1000-l)/4;");
        due("plan of 9", q.plan(0, 9), 28);
        due("planned(0)", q.planned(0), 2);
        due("planned(10)", q.planned(10), 44);
        due("planned(11)", q.planned(11), 45);
        // 1 to 5 at speed 1, 12 and 16 at speed 3, among others: 12, 16 takes the time of four passes with a deeper one.
        q = shopOf("sectors 6;rings 1;mass 3;stiff 6 6;damp 0 0;limit 99;mark 0;turns 1;force h/2;wall (1000-l)/4;");
        due("plan of 28", q.plan(0, 28), 36);
        due("planned(0)", q.planned(0), 2);
        due("planned(10)", q.planned(10), 72);
        due("planned(11)", q.planned(11), 76);
        q = shopOf("sectors 4;rings 1;mass 1;turns 1;mark 0;force h*400/2%800;");
        due("only the feeds of 4, 8, 12, 16, 20 are quiet", q.deepest(0, 1), 20);
        q.plan(0, 400);
        due("20 of 20", q.planned(0), 20);
        due("the last", q.planned(29), 40);
        due("none behind it", q.planned(30), NONE);
    }

    private static void p21() {
        QuietCut q = shopOf("sectors 4;rings 2;mass 1;force 0;turns 2;");
        due("the least set", q.bestTeeth(0, 1, 2, 7), 3);
        due("the least set", q.bestTeeth(0, 1, 1, 0x8400), 0x400);
        due("all of them", q.bestTeeth(0, 1, 4, 0xF000), 0xF000);
        due("6 of them", q.bestTeeth(1, 9, 3, 0xFC00), 0x1C00);
        due("7 of them", q.bestTeeth(0, 1, 3, 0xFE00), RANGE);
        due("too few", q.bestTeeth(0, 1, 3, 3), RANGE);
        due("no list", q.bestTeeth(0, 1, 1, 0), RANGE);
        due("none", q.bestTeeth(0, 1, 0, 7), RANGE);
        due("five", q.bestTeeth(0, 1, 5, 63), RANGE);
        due("beyond 15", q.bestTeeth(0, 1, 1, 1 << 16), RANGE);
        due("below 0", q.bestTeeth(0, 1, 1, Integer.MIN_VALUE), RANGE);
        due("no ring", q.bestTeeth(2, 1, 1, 7), RANGE);
        due("no speed", q.bestTeeth(0, 10, 1, 7), RANGE);
        due("the teeth stay", q.told(10), 1);
        bestOfSets("sectors 6;rings 1;mass 8;stiff 5 6;damp 2 3;limit 99;mark 7;turns 2;force h*2;", 1, 0x09);
        bestOfSets("sectors 8;rings 1;mass 8;stiff 3 3;damp 1 2;limit 99;mark 3;turns 2;force h;", 2, 0x0C);
        bestOfSets("sectors 8;rings 1;mass 5;stiff 2 2;damp 1 1;limit 99;mark 5;turns 2;force h*2;", 1, 0x09);
        q = shopOf("sectors 4;force 0;turns 1;mark 0;");
        q.set(0, 1, 979);
        due("none has a deepest", q.bestTeeth(0, 1, 2, 15), NONE);
    }

    /** Two of 0, 2, 3, 5: each set is told as the teeth of a shop of its own. */
    private static void bestOfSets(String text, int speed, int want) {
        int best = NONE;
        int most = 0;
        for (int first = 0; first < 6; first++) {
            for (int second = first + 1; second < 6; second++) {
                int set = 1 << first | 1 << second;
                int deepest = shopOf(text + "teeth " + first + " " + second + ";").deepest(0, speed);
                if ((set & 0x2D) == set && (deepest > most || deepest == most && set < best)) {
                    most = deepest;
                    best = set;
                }
            }
        }
        due("the best set of " + text, best, want);
        QuietCut q = shopOf(text + "teeth 1 2;");
        int own = q.deepest(0, speed);
        due("bestTeeth of " + text, q.bestTeeth(0, speed, 2, 0x2D), want);
        due("the teeth stay", q.deepest(0, speed), own);
        due("the teeth stay", q.told(20) * 10 + q.told(21), 12);
    }

    private static void p22() {
        QuietCut q = shopOf(STILL);
        due("no ring", q.job(2, 1, 1, 1), RANGE);
        due("no speed", q.job(0, 10, 1, 1), RANGE);
        due("no feed", q.job(0, 1, 0, 1), RANGE);
        due("no turns", q.job(0, 1, 1, 13), RANGE);
        for (int i = 0; i < 5; i++) {
            due("job no. " + i, q.job(1, 9, 20, 12), i);
        }
        due("the sixth", q.job(1, 9, 20, 12), FULL);
        due("the sixth, none", q.job(1, 9, 21, 12), RANGE);
        due("count(2)", q.count(2), 5);
    }

    private static void p23() {
        QuietCut q = shopOf(STILL);
        due("no jobs", q.order(0, 0), STATE);
        due("no jobs, and a stiffness that can't be", q.order(301, 0), RANGE);
        q.job(0, 1, 20, 12);
        due("one", q.order(0, 0), 0);
        due("stiffness", q.order(-1, 0), RANGE);
        due("stiffness", q.order(301, 0), RANGE);
        due("damping", q.order(0, -1), RANGE);
        due("damping", q.order(0, 301), RANGE);
        due("the bounds themselves", q.order(300, 300), 0);
        for (int i = 0; i < 4; i++) {
            q.job(0, 1, 20, 12);
        }
        due("five times 240 off 1000 can't be", q.order(0, 0), NONE);
        due("the piece stays", q.height(0, 0), 1000);
        due("no pass is cut", q.count(1), 0);
        // The ring must first be made flat by the deep job; the shallow one alone is marked.
        q = shopOf("sectors 4;rings 1;mass 1;force 0;mark 6;turns 1;");
        q.set(0, 2, 993);
        q.job(0, 1, 1, 1);
        q.job(0, 1, 5, 1);
        // 0 then 1: waves 999 - 993 = 6 and 994 - 993 = 1; 1 then 0: 995 - 993 = 2 and 994 - 993 = 1.
        due("order", q.order(0, 0), 3);
        due("ordered(0)", q.ordered(0), 1);
        due("ordered(1)", q.ordered(1), 0);
        q.set(0, 2, 990);
        // 0 first is marked (9); 1 first leaves 5, then 4.
        due("order", q.order(0, 0), 9);
        q.set(0, 2, 980);
        due("both are marked", q.order(0, 0), NONE);
        wearInOrder();
        // The job is on ring 1, which alone is not flat.
        q = shopOf("sectors 4;rings 2;mass 1;force 0;mark 6;turns 1;");
        q.set(1, 2, 993);
        q.job(1, 1, 2, 1);
        due("ring 1", q.order(0, 0), 5);
    }

    // The wear of the first job moves the tool in the second: ring 1 wears nothing that counts for it.
    private static void wearInOrder() {
        QuietCut q = shopOf("sectors 4;rings 2;mass 1;force w/20;wear h;mark 2000;limit 9999;turns 1;");
        q.job(0, 1, 20, 1);
        q.job(1, 1, 1, 1);
        int first = waves(q, 0, 20, 1, 1);
        int second = waves(q, 1, 1, 0, 20);
        due("the two rows differ", first == second ? 1 : 0, 0);
        due("order", q.order(8, 2), Math.min(first, second));
        due("ordered(0)", q.ordered(0), first <= second ? 0 : 1);
        due("wear stays", q.count(0), 0);
    }

    private static int waves(QuietCut q, int r1, int feed1, int r2, int feed2) {
        q.piece(1000);
        q.cut(r1, 1, feed1, 1, 8, 2);
        int wave = q.passed(0);
        q.cut(r2, 1, feed2, 1, 8, 2);
        wave += q.passed(0);
        q.piece(1000);
        return wave;
    }

    private static void p24() {
        QuietCut q = shopOf(STILL);
        due("ahead of any", q.ordered(0), NONE);
        q.job(0, 1, 1, 1);
        q.job(1, 1, 1, 1);
        q.job(0, 2, 1, 1);
        q.order(0, 0);
        for (int i = 0; i < 3; i++) {
            due("the least row", q.ordered(i), i);
        }
        due("none such", q.ordered(3), NONE);
        due("none such", q.ordered(-1), NONE);
        due("none such", q.ordered(Integer.MAX_VALUE), NONE);
        q.order(301, 0);
        due("one that told no sum", q.ordered(2), 2);
        q.piece(100);
        due("a piece", q.ordered(2), 2);
        q.job(0, 1, 1, 1);
        due("a job came", q.ordered(0), NONE);
        q.order(0, 0);
        due("ordered(3)", q.ordered(3), 3);
        shop(q, "rings 2;");
        due("a shop came", q.ordered(0), NONE);
    }

    private static void p25() {
        QuietCut q = shopOf(STILL);
        due("at most 30", q.until(0, 1, 1, 1, 0, 0), 30);
        due("4 times 240", q.until(0, 1, 20, 12, 0, 0), 4);
        q.piece(100);
        due("can't be", q.until(0, 1, 20, 12, 0, 0), 0);
        due("the piece stays", q.height(0, 0), 100);
        due("no pass is cut", q.count(1), 0);
        // Wear grows by 40 a pass; from 1000 on the force moves the tool: (1000 - 0) / 40 passes stay quiet.
        q = shopOf("sectors 4;rings 1;mass 1;force w/1000*600;wear 10;turns 1;");
        due("until it is worn", q.until(0, 1, 1, 1, 0, 0), 25);
        q.cut(0, 1, 1, 1, 0, 0);
        due("from the wear as it is", q.until(0, 1, 1, 1, 0, 0), 24);
        due("wear stays", q.count(0), 40);
        q.change();
        due("a new tool", q.until(0, 1, 1, 1, 0, 0), 25);
    }

    private static void p26() {
        QuietCut q = shopOf(STILL);
        q.piece(100);
        due("no ring", q.offer(2, 1, 1, 1), RANGE);
        due("no ring", q.offer(-1, 1, 1, 1), RANGE);
        due("no speed", q.offer(0, 0, 1, 1), RANGE);
        due("no feed", q.offer(0, 1, 21, 1), RANGE);
        due("no turns", q.offer(0, 1, 1, 0), RANGE);
        for (int i = 0; i < 10; i++) {
            due("offer no. " + i, q.offer(0, 1, 20, 12), i);
        }
        due("the eleventh", q.offer(0, 1, 1, 1), FULL);
        due("the eleventh, none", q.offer(0, 1, 0, 1), RANGE);
        due("count(3)", q.count(3), 10);
    }

    private static void p27() {
        QuietCut q = shopOf(STILL);
        due("no offer", q.heard(0, 0, 0), RANGE);
        q.offer(0, 1, 1, 1);
        due("no such offer", q.heard(0, 1, 0), RANGE);
        due("no such offer", q.heard(0, -1, 0), RANGE);
        due("no verdict", q.heard(0, 0, 3), RANGE);
        due("no verdict", q.heard(0, 0, -1), RANGE);
        due("no step", q.heard(-1, 0, 0), RANGE);
        due("no step", q.heard(1000, 0, 0), RANGE);
        due("the first", q.heard(5, 0, 0), 0);
        due("the same step", q.heard(5, 0, 0), 1);
        due("falling", q.heard(4, 0, 0), RANGE);
        due("a step that was refused counts nothing", q.heard(5, 0, 0), 2);
        for (int i = 3; i < 30; i++) {
            due("heard no. " + i, q.heard(999, 0, 0), i);
        }
        due("the 31st", q.heard(999, 0, 0), FULL);
        due("the 31st, falling", q.heard(998, 0, 0), RANGE);
        due("count(4)", q.count(4), 30);
    }

    private static void p28() {
        QuietCut q = shopOf(STILL);
        q.offer(0, 1, 1, 1);
        due("none was heard", q.right(0, 0, 0), RANGE);
        q.heard(3, 0, 0);
        q.heard(4, 0, 1);
        due("falling", q.right(3, 1, 0), RANGE);
        due("no step", q.right(1000, 1, 0), RANGE);
        due("no such", q.right(5, 2, 0), RANGE);
        due("no such", q.right(5, -1, 0), RANGE);
        due("no verdict", q.right(5, 1, 3), RANGE);
        due("no verdict", q.right(5, 1, -1), RANGE);
        due("no later step than its own", q.right(4, 1, 0), RANGE);
        due("a later step than its own", q.right(4, 0, 1), 1);
        due("count(5)", q.count(5), 1);
        due("of another", q.right(6, 1, 0), 1);
        due("again", q.right(6, 0, 0), 2);
        due("a telling may not fall behind a putting right", q.heard(5, 0, 0), RANGE);
        for (int i = 3; i < 20; i++) {
            due("right no. " + i, q.right(7, 1, i % 3), i - 1);
        }
        due("the 21st", q.right(8, 0, 0), FULL);
        due("the 21st, none", q.right(8, 2, 0), RANGE);
        due("count(5)", q.count(5), 20);
        due("a step that was refused counts nothing", q.heard(7, 0, 0), 2);
    }

    /** Pairs differ here: of the offers some are quiet, marked or shaken by stiffness and damping. */
    private static QuietCut shopOfPairs() {
        QuietCut q = shopOf("sectors 4;rings 1;mass 1;stiff 0 3;damp 0 2;limit 60;mark 12;force h/2;turns 2;");
        q.offer(0, 1, 1, 1);
        q.offer(0, 2, 5, 2);
        q.offer(0, 1, 7, 2);
        q.offer(0, 2, 9, 1);
        return q;
    }

    private static int pairsWith(QuietCut q, int speed, int feed, int turns, int verdict) {
        int pairs = 0;
        for (int k = 0; k <= 3; k++) {
            for (int d = 0; d <= 2; d++) {
                if (q.attempt(0, speed, feed, turns, k, d) == verdict) {
                    pairs |= 1 << 4 * k + d;
                }
            }
        }
        return pairs;
    }

    private static void p29() {
        QuietCut q = shopOfPairs();
        due("no step", q.fit(-1), RANGE);
        due("no step", q.fit(1000), RANGE);
        due("nothing was heard", q.fit(0), 0x7777);
        due("nothing was heard", q.fit(999), 0x7777);
        int quiet = pairsWith(q, 2, 5, 2, 0);
        int shaken = pairsWith(q, 2, 5, 2, 2);
        int flat = pairsWith(q, 1, 7, 2, 0);
        due("the pairs differ", quiet != 0 && shaken != 0 && flat != quiet ? 1 : 0, 1);
        q.heard(10, 1, 0);
        due("ahead of it", q.fit(9), 0x7777);
        due("from it on", q.fit(10), quiet);
        due("from it on", q.fit(999), quiet);
        q.heard(20, 2, 0);
        due("both", q.fit(20), quiet & flat);
        q.right(30, 0, 2);
        due("put right", q.fit(30), shaken & flat);
        due("as known ahead of that", q.fit(29), quiet & flat);
        due("as known ahead of that", q.fit(10), quiet);
        q.right(30, 0, 0);
        due("put right again at that step", q.fit(30), quiet & flat);
        q.piece(3000);
        q.set(0, 1, 100);
        due("the piece as it stands is nothing to it", q.fit(30), quiet & flat);
        due("one pair", shopOf("stiff 200 200;damp 0 0;").fit(0), 1);
        due("16 pairs", shopOf("stiff 197 200;damp 0 3;").fit(0), 0xFFFF);
        due("stiffness alone", shopOf("stiff 1 3;").fit(0), 0x111);
    }

    private static void p30() {
        QuietCut q = new QuietCut();
        due("no offers", q.next(), NONE);
        q.offer(0, 1, 1, 1);
        due("one pair is not parted", q.next(), NONE);
        q = shopOfPairs();
        int[][] passes = {{1, 1, 1}, {2, 5, 2}, {1, 7, 2}, {2, 9, 1}};
        due("next()", q.next(), best(q, passes, 0x7777));
        q.heard(10, 1, 0);
        due("next()", q.next(), best(q, passes, q.fit(10)));
        q.heard(10, q.next() == NONE ? 0 : q.next(), 1);
        due("next()", q.next(), best(q, passes, q.fit(10)));
        q.heard(11, 1, 1);
        due("nothing fits", q.fit(11), 0);
        due("nothing is parted", q.next(), NONE);
        q = shopOfPairs();
        q.offer(0, 2, 5, 2);
        due("the least of two that are the same", q.next() == 4 ? 1 : 0, 0);
        // The limit is so low and the mark so high that passes are quiet or shaken, by the stiffness.
        q = shopOf("sectors 4;rings 1;mass 1;stiff 0 3;damp 0 0;limit 1;mark 9999;turns 1;force 2-h;");
        q.offer(0, 1, 2, 1);
        q.offer(0, 1, 1, 1);
        q.offer(0, 3, 1, 1);
        int shaken = pairsWith(q, 3, 1, 1, 2) & 0x1111;
        due("quiet and shaken alone", (pairsWith(q, 3, 1, 1, 0) | shaken) & 0x1111, 0x1111);
        due("some of both", shaken != 0 && shaken != 0x1111 ? 1 : 0, 1);
        due("parted by shaken", q.next() == NONE ? 1 : 0, 0);
        q = shopOf(STILL + "stiff 0 3;damp 0 3;");
        q.offer(0, 1, 1, 1);
        due("nothing is parted by what is always quiet", q.next(), NONE);
    }

    private static int best(QuietCut q, int[][] passes, int fit) {
        int best = NONE;
        int least = Integer.bitCount(fit);
        for (int o = 0; o < passes.length; o++) {
            int most = 0;
            for (int verdict = 0; verdict <= 2; verdict++) {
                most = Math.max(most, Integer.bitCount(fit & pairsWith(q, passes[o][0], passes[o][1], passes[o][2], verdict)));
            }
            if (most < least) {
                least = most;
                best = o;
            }
        }
        return best;
    }

    private static void p31() {
        QuietCut q = new QuietCut();
        due("one", sound(q, "5"), 1);
        due("three", sound(q, " 0 -9999\n- 12 "), 3);
        due("without blanks", sound(q, "1-2-3"), 3);
        due("the tape is empty", q.count(7), 0);
        soundFault(q, "", 1, 0);
        soundFault(q, "  ", 1, 2);
        soundFault(q, "-", 1, 1);
        soundFault(q, "--5", 1, 1);
        soundFault(q, "5 +6", 1, 2);
        soundFault(q, "5;", 1, 1);
        soundFault(q, "5 h", 1, 2);
        soundFault(q, "5 12345", 1, 2);
        soundFault(q, "5 -", 1, 3);
        soundFault(q, "5\t6", 1, 1);
        String most = "1 ".repeat(150);
        due("150", sound(q, most), 150);
        QuietCut other = new QuietCut();
        sound(other, "1 2 3");
        soundFault(other, most + "7", 4, 300);
        soundFault(other, most + "- 7 x", 4, 302);
        soundFault(other, most + "-", 1, 301);
        soundFault(other, most + "- -", 1, 302);
        soundFault(other, most + "70000", 1, 300);
    }

    private static void soundFault(QuietCut q, String text, int kind, int place) {
        int had = q.count(6);
        due("sound of " + text, sound(q, text), NONE);
        due("its kind", q.fault(0), kind);
        due("its place", q.fault(1), place);
        due("the one before stays", q.count(6), had);
        due("the tape is empty", q.count(7), 0);
    }

    private static void p32() {
        QuietCut q = new QuietCut();
        due("no sound", q.ringsOut(1, 1, 1, 0), NONE);
        // Places        0 1 2 3 4  5  6  7  8
        sound(q, "0 9 0 9 0 -9 20 9 0");
        // Changes by 2: 0 0 0 18 20 18 20 (places 2 to 8).
        due("by 2", q.ringsOut(2, 1, 1, 0), 5);
        due("two of two", q.ringsOut(2, 2, 2, 0), 6);
        due("above 18", q.ringsOut(2, 1, 1, 18), 6);
        due("above 17", q.ringsOut(2, 1, 1, 17), 5);
        due("two of two above 18", q.ringsOut(2, 2, 2, 18), NONE);
        due("two of three above 18", q.ringsOut(2, 3, 2, 18), 8);
        due("above 20", q.ringsOut(2, 60, 1, 20), NONE);
        due("of those that there are", q.ringsOut(1, 60, 2, 0), 2);
        due("the first change of all", q.ringsOut(1, 60, 1, 0), 1);
        due("as many as there are", q.ringsOut(8, 1, 1, 0), NONE);
        sound(q, "0 9 9 0");
        due("the first change has gone", q.ringsOut(1, 2, 2, 0), NONE);
        due("it is there still", q.ringsOut(1, 3, 2, 0), 3);
        sound(q, "0 9 0 9 0 -9 20 9 0");
        due("no changes", q.ringsOut(9, 1, 1, 0), NONE);
        due("no changes", q.ringsOut(60, 60, 60, 9999), NONE);
        int[][] none = {{0, 1, 1, 0}, {61, 1, 1, 0}, {1, 0, 0, 0}, {1, 61, 1, 0}, {1, 1, 0, 0}, {1, 1, 2, 0}, {1, 1, 1, -1}, {1, 1, 1, 10000}, {1, -1, -2, 0}};
        for (int[] a : none) {
            due("ringsOut", q.ringsOut(a[0], a[1], a[2], a[3]), RANGE);
        }
    }

    private static void p33() {
        QuietCut q = new QuietCut();
        due("no sound", q.forced(1), NONE);
        due("no round", q.forced(0), RANGE);
        due("no round", q.forced(61), RANGE);
        // From place 2 on: 10, 20, -12: 42 in all; changes 0, 10, 22 by 2 are 32.
        sound(q, "10 10 10 20 -12");
        due("forced(2)", q.forced(2), 0);
        due("forced(5)", q.forced(5), NONE);
        due("forced(60)", q.forced(60), NONE);
        due("forced(4): 22 against 12", q.forced(4), 0);
        sound(q, "4 -6 -9 4 -6 -3");
        // Changes by 3: 0, 0, 6; 4 + 6 + 3 = 13: 6 is not above 6.5.
        due("not above half", q.forced(3), 1);
        sound(q, "4 -6 -9 4 -6 -2");
        due("7 against 12", q.forced(3), 0);
        sound(q, "6 4");
        due("the half itself", q.forced(1), 1);
        sound(q, "0 0 0");
        due("nothing at all", q.forced(1), 1);
    }

    private static void p34() {
        QuietCut q = shopOf(STILL + "wear 2;");
        q.cut(0, 1, 1, 1, 0, 0);
        q.cut(0, 1, 1, 1, 0, 0);
        q.cut(0, 1, 1, 1, 0, 0);
        for (int i = 0; i < 4; i++) {
            q.job(0, 1, 1, 1);
        }
        for (int i = 0; i < 5; i++) {
            q.offer(0, 1, 1, 1);
        }
        for (int i = 0; i < 6; i++) {
            q.heard(i, 0, 0);
        }
        for (int i = 0; i < 7; i++) {
            q.right(9, 0, 0);
        }
        sound(q, "1 2 3 4 5 6 7 8");
        q.feed(1, 2, 3, 4, 5);
        int[] want = {24, 3, 4, 5, 6, 7, 8, 20};
        for (int what = 0; what < 8; what++) {
            due("count(" + what + ")", q.count(what), want[what]);
        }
        due("count(8)", q.count(8), NONE);
        due("count(-1)", q.count(-1), NONE);
        due("count(MAX)", q.count(Integer.MAX_VALUE), NONE);
    }
}
