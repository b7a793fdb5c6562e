import java.util.List;

/** The bounds of THE TAPE, of THE SHOP's text and of a SOUND's text: what is read, and which FAULT is told where. */
public final class TextBoundsTest {
    private static final String[] CLAUSES = {"sectors 5;", "rings 2;", "mass 5;", "stiff 5 6;", "damp 5 6;", "limit 5;", "mark 5;", "turns 5;", "teeth 5;", "sway 5;",
        "force h;", "wall l;", "wear h;"};
    private static final String[] SUMS = {"force", "wall", "wear"};
    private static final String[] LETTERS = {"hw", "lg", "h"};
    private static final String[] TOKENS = {"rings", "h", "5", ";", "(", ")", "+", "-", "*", "/", "%", "!", ""};

    public static void main(String[] args) {
        newObject();
        tapeIsFull();
        tapeIsEmptied();
        tapeIsEnded();
        blanks();
        runs();
        numberClauses();
        spans();
        rows();
        untoldSums();
        operands();
        openings();
        letters();
        reckoning();
        syntax();
        range();
        twice();
        room();
        firstFault();
        places();
        shopCall();
        faultCall();
        toldCall();
        tellsCall();
        soundText();
        Due.finish("TextBoundsTest");
    }

    private static void newObject() {
        Due.sentence("THE SHOP as untold, a fresh PIECE.");
        QuietCut q = new QuietCut();
        int[] untold = {8, 3, 4, 8, 8, 2, 2, 500, 20, 4, 1, 1};
        for (int what = 0; what < untold.length; what++) {
            Due.due("told(" + what + ")", q.told(what), untold[what]);
        }
        for (int i = 0; i < 24; i++) {
            Due.due("height", q.height(i / 8, i % 8), 1000);
            Due.due("left", q.left(i / 8, i % 8, 0), Due.NONE);
        }
        for (int what = 0; what < 8; what++) {
            Due.due("count(" + what + ")", q.count(what), 0);
        }
        Due.due("height(3, 0)", q.height(3, 0), Due.NO_HEIGHT);
        Due.due("height(0, 8)", q.height(0, 8), Due.NO_HEIGHT);
        Due.due("nothing is shared", q.piece(200) + new QuietCut().height(0, 0), 1001);
    }

    private static void tapeIsFull() {
        Due.sentence("THE TAPE has at most 1000 bytes");
        QuietCut q = new QuietCut();
        for (int i = 1; i <= 50; i++) {
            Due.due("feed no. " + i, q.feed(0, 0, 0, 0, 0), 20 * i);
        }
        Due.due("the 51st", q.feed(0, 0, 0, 0, 0), Due.FULL);
        Due.due("count(7)", q.count(7), 1000);
        Due.due("all 1000 are read", Due.shop(q, " ".repeat(993) + "mass 7;"), 1);
        Due.due("told(2)", q.told(2), 7);
        Due.dueFault(" ".repeat(999) + "x", 1, 999);
        Due.dueFault("mass 5" + " ".repeat(994), 1, 1000);
        Due.sentence("FULL when there would be more than 1000");
        for (int had = 979; had <= 1000; had++) {
            q = new QuietCut();
            Due.feed(q, " ".repeat(had - 7) + "mass 9;");
            Due.due("feed behind " + had, q.feed(0x20202020, 0x20202020, 0x20202020, 0x20202020, 0x20202020), had <= 980 ? had + 20 : Due.FULL);
            Due.due("count(7)", q.count(7), had <= 980 ? had + 20 : had);
            Due.due("what stood is as it was", q.shop(), 1);
            Due.due("told(2)", q.told(2), 9);
        }
        Due.sentence("Twenty bytes come behind THE TAPE, the highest of each int first: how many it has");
        q = new QuietCut();
        Due.due("feed", q.feed(0x6D617373, 0x20373B72, 0x696E6773, 0x20323B6D, 0x61726B20), 20);
        Due.due("feed", q.feed(0x33333B6C, 0x696D6974, 0x20343434, 0x343B2020, 0x20200A0A), 40);
        Due.due("shop()", q.shop(), 4);
        int[] told = {7, 2, 33, 4444};
        int[] whats = {2, 1, 8, 7};
        for (int i = 0; i < 4; i++) {
            Due.due("told(" + whats[i] + ")", q.told(whats[i]), told[i]);
        }
        Due.due("ints below 0 are bytes like others", q.feed(-1, Due.MIN, -1, -1, -1), 20);
        Due.due("shop()", q.shop(), Due.NONE);
        Due.due("fault(1)", q.fault(1), 0);
    }

    private static void tapeIsEmptied() {
        Due.sentence("each call that reads it empties it, whatever it tells");
        QuietCut q = new QuietCut();
        String[] texts = {"mass 7;", "mass 0;", "", "x"};
        for (String text : texts) {
            Due.due("shop() of " + text, Due.shop(q, text) < 0 ? 1 : 0, text.length() > 0 && !text.equals("mass 7;") ? 1 : 0);
            emptied(q);
        }
        for (String text : new String[] {"1 2", "1 -", "", "1 x"}) {
            Due.due("sound() of " + text, Due.sound(q, text), text.equals("1 2") ? 2 : Due.NONE);
            emptied(q);
        }
        Due.shop(q, "x");
        Due.due("a second shop() reads nothing", q.shop(), 0);
        Due.feed(q, "mass 7;");
        tellNothingOfTheTape(q);
        Due.due("the others leave it", q.count(7), 7);
        Due.due("shop()", q.shop(), 1);
        Due.due("told(2)", q.told(2), 7);
    }

    private static void emptied(QuietCut q) {
        Due.due("count(7)", q.count(7), 0);
        Due.due("end(1)", q.end(1), Due.NONE);
        Due.due("end(0)", q.end(0), 0);
        Due.due("the next feed", q.feed(0, 0, 0, 0, 0), 20);
    }

    private static void tellNothingOfTheTape(QuietCut q) {
        q.fault(0);
        q.told(0);
        q.tells(0, 1, 1);
        q.piece(500);
        q.height(0, 0);
        q.set(0, 0, 500);
        q.change();
        q.attempt(0, 1, 1, 1, 0, 0);
        q.cut(0, 1, 1, 1, 0, 0);
        q.passed(0);
        q.left(0, 0, 0);
        q.sure(0, 1, 1, 1);
        q.deepest(0, 1);
        q.best(0);
        q.plan(0, 4);
        q.planned(0);
        q.bestTeeth(0, 1, 1, 1);
        q.job(0, 1, 1, 1);
        q.order(0, 0);
        q.ordered(0);
        q.until(0, 1, 1, 1, 0, 0);
        q.offer(0, 1, 1, 1);
        q.heard(0, 0, 0);
        q.right(1, 0, 0);
        q.fit(0);
        q.next();
        q.ringsOut(1, 1, 1, 0);
        q.forced(1);
    }

    private static void tapeIsEnded() {
        Due.sentence("THE TAPE has its first n bytes alone: n; NONE when it has not so many, or n is below 0.");
        QuietCut q = new QuietCut();
        Due.due("end(0) of nothing", q.end(0), 0);
        Due.due("end(1) of nothing", q.end(1), Due.NONE);
        q.feed(0x6D617373, 0x20373B78, 0x78787878, 0x78787878, 0x78787878);
        int[] none = {21, -1, 1000, 1001, Due.MIN, Due.MAX};
        for (int n : none) {
            Due.due("end(" + n + ")", q.end(n), Due.NONE);
            Due.due("it stays", q.count(7), 20);
        }
        Due.due("end(20)", q.end(20), 20);
        Due.due("end(7)", q.end(7), 7);
        Due.due("what is gone does not come back", q.end(8), Due.NONE);
        Due.due("bytes come behind the seventh", q.feed(0x72696E67, 0x73322020, 0x3B202020, 0x20202020, 0x20202020), 27);
        Due.due("shop()", q.shop(), 2);
        Due.due("told(1)", q.told(1), 2);
        Due.feed(q, "x");
        Due.due("end(0)", q.end(0), 0);
        Due.due("nothing is left to be read", q.shop(), 0);
        Due.due("end(1000) of 1000", endOfAll(1000), 1000);
        Due.due("end(1001) of 1000", endOfAll(1001), Due.NONE);
    }

    private static int endOfAll(int n) {
        QuietCut q = new QuietCut();
        Due.feed(q, " ".repeat(1000));
        return q.end(n);
    }

    private static void blanks() {
        Due.sentence("TOKENS with any blanks (32, 10) between");
        for (char b = 0; b < 256; b++) {
            String text = "mass" + b + "5;";
            if (b == 32 || b == 10 || b >= '0' && b <= '9') {
                Due.due("told(2) of mass" + (int) b, Due.shopOf(text).told(2), b == 32 || b == 10 ? 5 : (b - '0') * 10 + 5);
            } else {
                Due.dueFault(text, 1, b >= 'a' && b <= 'z' ? 0 : 4);
            }
        }
        Due.due("none", Due.shop(new QuietCut(), "mass5;stiff5 6;force(h+w)*-2;"), 3);
        Due.due("many", Due.shop(new QuietCut(), "\n\n mass" + " \n".repeat(300) + "5" + "\n".repeat(100) + ";  \n"), 1);
        Due.due("nothing else", Due.shop(new QuietCut(), " \n".repeat(500)), 0);
    }

    private static void runs() {
        Due.sentence("WORDS (small letters, as many as there are, 8 at most)");
        for (String word : new String[] {"m", "mas", "masss", "massrings", "sectorss", "sectorsss", "aaaaaaaa", "aaaaaaaaa", "z".repeat(900)}) {
            Due.dueFault(word + " 5;", 1, 0);
            Due.dueFault("mass 5;" + word, 1, 7);
        }
        Due.dueFault("ma ss 5;", 1, 0);
        for (String clause : CLAUSES) {
            String word = clause.substring(0, clause.indexOf(' '));
            for (int i = 0; i < word.length(); i++) {
                Due.dueFault(word.substring(0, i) + "z" + clause.substring(i + 1), 1, 0);
                if (i > 0) {
                    Due.dueFault(word.substring(0, i) + " " + clause.substring(i), 1, 0);
                }
            }
        }
        Due.dueFault("force hh;", 1, 6);
        Due.dueFault("force hhhhhhhhh;", 1, 6);
        Due.sentence("N (digits, as many as there are, 4 at most)");
        Due.due("limit 9999", Due.shopOf("limit 9999;").told(7), 9999);
        Due.due("limit 0001", Due.shopOf("limit 0001;").told(7), 1);
        Due.due("force 9999", Due.shopOf("force 9999;").tells(0, 0, 0), 9999);
        Due.due("force 0000", Due.shopOf("force 0000;").tells(0, 0, 0), 0);
        // Too long a run is no N, so that its bounds are nothing to it.
        for (String run : new String[] {"10000", "00001", "00000", "99999999999", "0".repeat(800)}) {
            Due.dueFault("limit " + run + ";", 1, 6);
            Due.dueFault("force " + run + ";", 1, 6);
            Due.dueSoundFault(run, 1, 0);
            Due.dueSoundFault("-" + run, 1, 1);
        }
        Due.dueFault("limit 99 99;", 1, 9);
        Due.due("two of them", Due.sound(new QuietCut(), "99 99"), 2);
        Due.due("9999, -9999", Due.sound(new QuietCut(), "9999-9999"), 2);
    }

    private static void numberClauses() {
        boundsOf("sectors", "sectors 4 .. 16 (8)", 0, 4, 16, 8);
        boundsOf("rings", "rings 1 .. 6 (3)", 1, 1, 6, 3);
        boundsOf("mass", "mass 1 .. 99 (4)", 2, 1, 99, 4);
        boundsOf("limit", "limit 1 .. 9999 (500)", 7, 1, 9999, 500);
        boundsOf("mark", "mark 0 .. 9999 (20)", 8, 0, 9999, 20);
        boundsOf("turns", "turns 1 .. 12 (4)", 9, 1, 12, 4);
    }

    private static void boundsOf(String word, String words, int what, int low, int high, int untold) {
        Due.sentence(words);
        int place = word.length() + 1;
        Due.due("untold", new QuietCut().told(what), untold);
        Due.due("of another text", Due.shopOf(word.equals("mass") ? "mark 5;" : "mass 5;").told(what), untold);
        for (int n : new int[] {low, low + 1, high - 1, high}) {
            Due.due(word + " " + n, Due.shopOf(word + " " + n + ";").told(what), n);
        }
        if (low > 0) {
            Due.dueFault(word + " " + (low - 1) + ";", 2, place);
            Due.dueFault(word + " 0;", 2, place);
        }
        Due.dueFault(word + " -1;", 1, place);
        // 10000 is a run of five digits: no N.
        Due.dueFault(word + " " + (high + 1) + ";", high < 9999 ? 2 : 1, place);
        if (high < 9999) {
            Due.dueFault(word + " 9999;", 2, place);
        }
    }

    private static void spans() {
        Due.sentence("stiff, damp 0 .. 200, the second N 0 to 3 above the first (8 8; 2 2)");
        Due.due("untold", new QuietCut().told(3) * 1000 + new QuietCut().told(4), 8008);
        Due.due("untold", new QuietCut().told(5) * 1000 + new QuietCut().told(6), 2002);
        for (int first : new int[] {0, 1, 5, 196, 197, 198, 199, 200}) {
            for (int second = Math.max(0, first - 2); second <= first + 5; second++) {
                spanIs("stiff", 3, first, second);
                spanIs("damp", 5, first, second);
            }
        }
        for (String word : new String[] {"stiff ", "damp "}) {
            int place = word.length();
            Due.dueFault(word + "201 201;", 2, place);
            Due.dueFault(word + "201 0;", 2, place);
            Due.dueFault(word + "9999 9999;", 2, place);
            Due.dueFault(word + "0 9999;", 2, place + 2);
            Due.dueFault(word + "-1 0;", 1, place);
            Due.dueFault(word + "5;", 1, place + 1);
            Due.dueFault(word + "5 6 7;", 1, place + 4);
            Due.dueFault(word + "5 6 999;", 1, place + 4);
        }
    }

    private static void spanIs(String word, int what, int first, int second) {
        String text = word + " " + first + " " + second + ";";
        if (second >= first && second <= first + 3 && second <= 200) {
            QuietCut q = Due.shopOf(text);
            Due.due("first of " + text, q.told(what), first);
            Due.due("second of " + text, q.told(what + 1), second);
        } else {
            Due.dueFault(text, 2, text.lastIndexOf(' ') + 1);
        }
    }

    private static void rows() {
        rowOf("teeth", "teeth 1 .. 4 N of 0 .. 15 (0)", 10, 20, 4, 15);
        rowOf("sway", "sway 1 .. 6 N of 0 .. 9 (0)", 11, 30, 6, 9);
    }

    private static void rowOf(String word, String words, int whatMany, int what, int most, int high) {
        Due.sentence(words);
        Due.due("untold", new QuietCut().told(whatMany), 1);
        Due.due("untold", new QuietCut().told(what), 0);
        QuietCut told = Due.shopOf(word + " 5 6 7;");
        Due.due("told", told.told(whatMany) * 10 + told.told(what), 35);
        Due.due("another text", Due.shop(told, "mass 5;"), 1);
        Due.due("untold again", told.told(whatMany) * 10 + told.told(what), 10);
        Due.dueFault(word + ";", 1, word.length());
        Due.dueFault(word + " ", 1, word.length() + 1);
        String row = word;
        for (int many = 1; many <= most; many++) {
            for (int n : new int[] {0, 1, high - 1, high}) {
                QuietCut q = Due.shopOf(row + " " + n + ";");
                Due.due("how many", q.told(whatMany), many);
                Due.due("the last", q.told(what + many - 1), n);
                Due.due("none behind it", q.told(what + many), Due.NONE);
            }
            Due.dueFault(row + " " + (high + 1) + ";", 2, row.length() + 1);
            Due.dueFault(row + " 9999;", 2, row.length() + 1);
            Due.dueFault(row + " 00000;", 1, row.length() + 1);
            Due.dueFault(row + " -1;", 1, row.length() + 1);
            Due.dueFault(row + " h;", 1, row.length() + 1);
            row += " " + many;
        }
        Due.dueFault(row + " 0;", 4, row.length() + 1);
        Due.dueFault(row + " " + high + "", 4, row.length() + 1);
        Due.dueFault(row + " " + (high + 1) + ";", 2, row.length() + 1);
        Due.dueFault(row + " 00000;", 1, row.length() + 1);
        Due.dueFault(row + " h;", 1, row.length() + 1);
        Due.dueFault(row, 1, row.length());
    }

    private static void untoldSums() {
        Due.sentence("force (h), wall (0), wear (0)");
        QuietCut q = new QuietCut();
        untoldSums(q, 7, 0, 0);
        Due.shop(q, "force h*w;wall l+g;wear h-1;");
        untoldSums(q, 35, 12, 6);
        Due.shop(q, "force 1;wall 2;wear 3;mass");
        untoldSums(q, 35, 12, 6);
        Due.shop(q, "wall 9;");
        untoldSums(q, 7, 9, 0);
        Due.shop(q, "wear 4;force w;");
        untoldSums(q, 5, 0, 4);
        // What a text with a FAULT left half read is nothing to the next.
        String[] halves = {"force h*(w+", "force ----", "wall (((l", "wear h+h+h+h+h+h+h+h+h+h+h+h", "force 3-", "wall l*l-", "force (h)-((w)*"};
        for (String half : halves) {
            Due.due("shop() of " + half, Due.shop(q, half), Due.NONE);
            Due.due("shop() behind it", Due.shop(q, "force ----h-2;wear h+h+h+h+h+h+h+h+h+h+h+h;wall ((((l))))-g;"), 3);
            untoldSums(q, 5, 2, 84);
            Due.due("shop() of " + half, Due.shop(q, half), Due.NONE);
            Due.due("a ) that nothing opened", Due.shop(q, "force h);"), Due.NONE);
            Due.due("its PLACE", q.fault(1), 7);
            Due.due("the empty text", Due.shop(q, ""), 0);
            untoldSums(q, 7, 0, 0);
        }
    }

    private static void untoldSums(QuietCut q, int force, int wall, int wear) {
        Due.due("force of 7, 5", q.tells(0, 7, 5), force);
        Due.due("wall of 7, 5", q.tells(1, 7, 5), wall);
        Due.due("wear of 7", q.tells(2, 7, 5), wear);
    }

    private static void operands() {
        Due.sentence("at most 12 N and LETTERS each");
        String all = "";
        for (int sum = 0; sum < 3; sum++) {
            String letter = LETTERS[sum].substring(0, 1);
            for (String operand : new String[] {letter, "1", letter + "+1", "(" + letter + ")+-" + letter}) {
                int each = operand.length() > 1 ? 2 : 1;
                String text = SUMS[sum] + " " + operand + ("+" + operand).repeat(12 / each - 1);
                int two = operand.startsWith("(") ? 0 : operand.length() > 1 ? 2 + 1 : operand.equals("1") ? 1 : 2;
                Due.due("12 in " + text, Due.shopOf(text + ";").tells(sum, 2, 9), 12 / each * two);
                Due.dueFault(text + "+1;", 4, text.length() + 1);
                Due.dueFault(text + "+" + letter, 4, text.length() + 1);
                Due.dueFault(text + "-(" + letter, 4, text.length() + 2);
                Due.dueFault(text + "+z;", 1, text.length() + 1);
                Due.dueFault(text + "+12345;", 1, text.length() + 1);
                Due.dueFault(text + "+;", 1, text.length() + 1);
            }
            all += SUMS[sum] + " " + letter + ("-" + letter).repeat(11) + ";";
        }
        QuietCut q = Due.shopOf(all);
        for (int sum = 0; sum < 3; sum++) {
            Due.due("each sum has its own 12", q.tells(sum, 3, 0), -30);
        }
        Due.due("one", Due.shopOf("force w;").tells(0, 3, 4), 4);
        // The longest and the deepest that the bounds leave.
        Due.due("12 with four - each", Due.shopOf("force ----h" + "-----h".repeat(11) + ";").tells(0, 3, 0), -30);
        Due.due("+ and * on each of five levels", Due.shopOf("force h+w*(h+w*(h+w*(h+w*(h+w*2))));").tells(0, 1, 3), 1 + 3 * (1 + 3 * (1 + 3 * (1 + 3 * 7))));
        Due.due("- and % on each of five levels", Due.shopOf("force 9-w%(9-w%(9-w%(9-w%(9-w%2))));").tells(0, 1, 7), 9 - 7 % (9 - 7 % (9 - 7 % (9 - 7 % (9 - 7 % 2)))));
        Due.dueFault("force ;", 1, 6);
    }

    /** All rows of four and of five out of ( and -, the closing ones behind. */
    private static void openings() {
        Due.sentence("4 ( and - of a FACTOR open at once");
        for (int bits = 0; bits < 32; bits++) {
            StringBuilder opened = new StringBuilder();
            int minuses = 0;
            for (int i = 0; i < 4; i++) {
                opened.append((bits >> i & 1) == 0 ? "(" : "-");
                minuses += bits >> i & 1;
            }
            String four = opened + "h" + ")".repeat(4 - minuses);
            Due.due("force " + four, Due.shopOf("force " + four + ";").tells(0, 7, 0), minuses % 2 == 0 ? 7 : -7);
            Due.due("again and again", Due.shopOf("force " + four + "-" + four + "*" + four + ";").tells(0, 7, 0), (minuses % 2 == 0 ? 7 : -7) - 49);
            Due.dueFault("force " + opened + ((bits >> 4 & 1) == 0 ? "(" : "-") + "h;", 4, 10);
            Due.dueFault("force " + four + "+" + opened + ((bits >> 4 & 1) == 0 ? "(" : "-"), 4, 6 + four.length() + 5);
        }
        Due.due("a - between two is none of them", Due.shopOf("force ((((h-h-h-h-w))));").tells(0, 2, 5), -9);
        Due.due("what is closed is not open", Due.shopOf("force -(((h)+-h))+-(-(h)*(-w));").tells(0, 2, 5), -10);
        Due.dueFault("force (((h)+((h+(", 4, 16);
        Due.dueFault("force (((h)+((h+-", 4, 16);
        Due.dueFault("force -(((h+-w", 4, 12);
        Due.due("a - is open no longer than its factor", Due.shopOf("force -h+((((h))))+-w*----w;").tells(0, 2, 5), -25);
        Due.due("a - is open as long as its factor", Due.shop(new QuietCut(), "force -(h+(h+(h)));"), 1);
        Due.dueFault("force -(h+(h+((h", 4, 14);
    }

    private static void letters() {
        Due.sentence("LETTERS of force: h, w; of wall: l, g; of wear: h.");
        for (int sum = 0; sum < 3; sum++) {
            for (char c = 'a'; c <= 'z'; c++) {
                String text = SUMS[sum] + " " + c + ";";
                int which = LETTERS[sum].indexOf(c);
                if (which >= 0) {
                    Due.due(text, Due.shopOf(text).tells(sum, 31, 47), which == 0 ? 31 : 47);
                } else {
                    Due.dueFault(text, 1, SUMS[sum].length() + 1);
                }
                Due.dueFault(SUMS[sum] + " " + c + c + ";", 1, SUMS[sum].length() + 1);
            }
        }
    }

    private static void reckoning() {
        Due.sentence("All from the left on; ints that wrap; / cuts towards 0, % is what is left by it; both are 0 when the second is 0.");
        int[] edges = {Due.MIN, Due.MIN + 1, -65536, -7, -2, -1, 0, 1, 2, 7, 65536, Due.MAX - 1, Due.MAX};
        for (String sign : new String[] {"+", "-", "*", "/", "%"}) {
            QuietCut q = Due.shopOf("force h" + sign + "w;wall l" + sign + "(g);");
            for (int a : edges) {
                for (int b : edges) {
                    Due.due(a + sign + b, q.tells(0, a, b), joined(sign, a, b));
                }
                Due.due(a + sign + "(" + 3 + ")", q.tells(1, a, 3), joined(sign, a, 3));
            }
        }
        for (int a : edges) {
            Due.due("-" + a, Due.shopOf("wear -h;").tells(2, a, 0), (int) -(long) a);
        }
        Object[][] sums = {{"h-w-3", 2}, {"h/w/2", 1}, {"h/w*w", 10}, {"h%w*w", 0}, {"h*w%7/2", 0}, {"h-w+3", 8}, {"3+h*w", 53}, {"h*w+3", 53}, {"h-6/w", 9},
            {"-h/3", -3}, {"-h%3", -1}, {"h--w", 15}, {"h*-w", -50}, {"h/(w-5)+1", 1}, {"h%(w-5)-1", -1}, {"9999*9999*9999/1", (int) (9999L * 9999 * 9999)}};
        for (Object[] sum : sums) {
            Due.due(sum[0] + " of 10, 5", Due.shopOf("force " + sum[0] + ";").tells(0, 10, 5), (Integer) sum[1]);
        }
    }

    private static int joined(String sign, long a, long b) {
        switch (sign) {
            case "+": return (int) (a + b);
            case "-": return (int) (a - b);
            case "*": return (int) (a * b);
            case "/": return b == 0 ? 0 : (int) (a / b);
            default: return b == 0 ? 0 : (int) (a - a / b * b);
        }
    }

    private static void syntax() {
        Due.sentence("1 SYNTAX: a TOKEN (or byte that is none, a run that is too long, another LETTER) with which no text goes on.");
        List<String> operand = List.of("h", "5", "(", "-");
        List<String> behind = List.of(";", "+", "-", "*", "/", "%");
        List<String> within = List.of(")", "+", "-", "*", "/", "%");
        goesOn("", List.of("rings", ""));
        goesOn("mass 5;", List.of("rings", ""));
        for (String word : new String[] {"sectors ", "mass ", "limit ", "mark ", "turns ", "stiff ", "stiff 4 ", "damp ", "damp 3 ", "teeth ", "sway "}) {
            goesOn(word, List.of("5"));
        }
        for (String told : new String[] {"sectors 4 ", "mass 5 ", "limit 5 ", "mark 5 ", "turns 5 ", "stiff 4 5 ", "damp 3 3 "}) {
            goesOn(told, List.of(";"));
        }
        goesOn("teeth 1 ", List.of("5", ";"));
        goesOn("teeth 1 2 3 ", List.of("5", ";"));
        goesOn("sway 1 2 3 4 5 ", List.of("5", ";"));
        for (String open : new String[] {"force ", "wear ", "force (", "force - ", "force h*", "force h- ", "wear h/(h%", "force ((-"}) {
            goesOn(open, operand);
        }
        for (String whole : new String[] {"force h ", "wear 7 ", "force (h) ", "force -h ", "force -(h)*w ", "force h-h "}) {
            goesOn(whole, behind);
        }
        for (String inner : new String[] {"force (h ", "wear (-h ", "force ((h) ", "force (h*h ", "force -(h "}) {
            goesOn(inner, within);
        }
    }

    /** Behind the text each token is either one of these, so that a fault comes at the end alone, or the fault. */
    private static void goesOn(String text, List<String> with) {
        for (String token : TOKENS) {
            QuietCut q = new QuietCut();
            int answer = Due.shop(q, text + token);
            boolean whole = with.contains(token) && (token.equals(";") || token.isEmpty());
            String call = "shop() of " + text + token;
            Due.due(call, Math.min(answer, 0), whole ? 0 : Due.NONE);
            Due.due("fault(0) of " + call, q.fault(0), whole ? 0 : 1);
            Due.due("fault(1) of " + call, q.fault(1), whole ? Due.NONE : with.contains(token) ? text.length() + token.length() : text.length());
        }
    }

    private static void range() {
        Due.sentence("2 RANGE: an N out of its bounds.");
        Due.dueFault("mass 5;rings 7", 2, 13);
        Due.dueFault("mass 5;rings\n\n 0x", 2, 15);
        Due.dueFault("teeth 1 2 16 99;", 2, 10);
        Due.dueFault("stiff 250 1;", 2, 6);
        // No bounds are told for an N of a SUM.
        Due.due("0 and 9999 in a sum", Due.shop(new QuietCut(), "force 0+9999;wall 0;wear 9999;"), 3);
    }

    private static void twice() {
        Due.sentence("3 TWICE: a clause's first WORD that was told already.");
        for (String clause : CLAUSES) {
            String word = clause.substring(0, clause.indexOf(' '));
            Due.dueFault(clause + word, 3, clause.length());
            Due.dueFault(clause + clause, 3, clause.length());
            Due.dueFault(clause + "\n" + word + " 9999 !", 3, clause.length() + 1);
            String other = clause.startsWith("mark") ? "mass 5;" : "mark 5;";
            Due.dueFault(clause + other + clause, 3, clause.length() + other.length());
            QuietCut q = Due.shopOf(clause);
            Due.due("told in the text before, not in this one", Due.shop(q, clause), 1);
            Due.due("a text with a fault", Due.shop(q, clause + "x"), Due.NONE);
            Due.due("told in a text with a fault, not in this one", Due.shop(q, clause), 1);
        }
        // No clause begins where the word of one stands in another.
        Due.dueFault("mass 5 mass", 1, 7);
        Due.dueFault("force mass;", 1, 6);
    }

    private static void room() {
        Due.sentence("4 ROOM: the fifth N of teeth, the seventh of sway; the 13th N or LETTER of a SUM; the fifth ( or - of a FACTOR.");
        Due.dueFault("teeth 1 2 3 4 5", 4, 14);
        Due.dueFault("sway 1 2 3 4 5 6 7", 4, 17);
        Due.dueFault("wall l*l*l*l*l*l*l*l*l*l*l*l*g", 4, 29);
        Due.dueFault("wear 1+2+3+4+5+6+7+8+9+1+2+3+4", 4, 29);
        Due.dueFault("wear (((((", 4, 9);
        Due.dueFault("wear -----", 4, 9);
        Due.due("as many as there is room for", Due.shop(new QuietCut(), "teeth 1 2 3 4;sway 1 2 3 4 5 6;wall l*l*l*l*l*l*l*l*l*l*l*l;wear ((((h))));"), 4);
    }

    private static void firstFault() {
        Due.sentence("the first come to as TOKENS are read one by one, of one TOKEN the least KIND");
        Due.dueFault("mass 0;mass 5 x", 2, 5);
        Due.dueFault("mass 5;mass 0;!", 3, 7);
        Due.dueFault("! mass 0;", 1, 0);
        Due.dueFault("teeth 1 2 3 4 5 16", 4, 14);
        Due.dueFault("teeth 1 2 3 4 16", 2, 14);
        Due.dueFault("teeth 1 2 3 4 00016", 1, 14);
        Due.dueFault("sway 1 2 3 4 5 6 10", 2, 17);
        Due.dueFault("sway 1 2 3 4 5 6 00010", 1, 17);
        Due.dueFault("force h+h+h+h+h+h+h+h+h+h+h+h+l", 1, 30);
        Due.dueFault("force h+h+h+h+h+h+h+h+h+h+h+h+hh", 1, 30);
        Due.dueFault("force h+h+h+h+h+h+h+h+h+h+h+h+10000", 1, 30);
        Due.dueFault("force ((((*", 1, 10);
        Due.dueFault("force (((((*", 4, 10);
        Due.dueFault("mass 5 0;", 1, 7);
        Due.dueFault("stiff 5 6 300;", 1, 10);
        Due.dueFault("mass mass 0;", 1, 5);
    }

    private static void places() {
        Due.sentence("KIND and PLACE (a TOKEN's first byte; the text's length at its end)");
        Due.dueFault("mass", 1, 4);
        Due.dueFault("mass \n ", 1, 7);
        Due.dueFault("  limit  00000", 1, 9);
        Due.dueFault("\nmass 5;\n rings  9 ;", 2, 17);
        Due.dueFault("mass 5; massive 5;", 1, 8);
        Due.dueFault("mass 5;\u0000", 1, 7);
        Due.dueFault("mass 5;\u00ff\u00ff", 1, 7);
        Due.dueFault("force (h", 1, 8);
        Due.dueFault("force (h   ", 1, 11);
        Due.dueSoundFault("", 1, 0);
        Due.dueSoundFault(" \n", 1, 2);
        Due.dueSoundFault("5 - ", 1, 4);
    }

    private static void shopCall() {
        Due.sentence("THE TAPE is THE SHOP: how many clauses; NONE with a FAULT (it stays).");
        String text = "";
        for (int many = 0; many <= CLAUSES.length; many++) {
            Due.due("shop() of " + text, Due.shop(new QuietCut(), text), many);
            text += many < CLAUSES.length ? CLAUSES[many] : "";
        }
        QuietCut q = Due.shopOf(text);
        Due.due("a fault in the last token", Due.shop(q, "sectors 9;rings 4;mass 9;teeth 1 2;sway 3 4;force w;wall g;wear 8"), Due.NONE);
        int[] told = {5, 2, 5, 5, 6, 5, 6, 5, 5, 5, 1, 1};
        for (int i = 0; i < told.length; i++) {
            Due.due("told(" + i + ") stays", q.told(i), told[i]);
        }
        Due.due("teeth stay", q.told(20) * 10 + q.told(30), 55);
        Due.due("sums stay", q.tells(0, 3, 4) * 100 + q.tells(1, 5, 6) * 10 + q.tells(2, 7, 0), 357);
        Due.due("the empty text is a shop", Due.shop(q, ""), 0);
        Due.due("it is as untold", q.told(0) * 100 + q.told(1) * 10 + q.told(2), 834);
    }

    private static void faultCall() {
        Due.sentence("Of the latest shop() or sound(), what 0: its FAULT's KIND, 0 without (and ahead of any), 1: its PLACE (NONE). NONE for another what.");
        QuietCut q = new QuietCut();
        faultIs(q, 0, Due.NONE);
        String[] texts = {"x", "mass 0;", "mass 5;mass", "teeth 1 2 3 4 5;"};
        int[] places = {0, 5, 7, 14};
        for (int kind = 1; kind <= 4; kind++) {
            Due.shop(q, texts[kind - 1]);
            faultIs(q, kind, places[kind - 1]);
            q.piece(1);
            q.attempt(0, 0, 0, 0, 0, 0);
            q.feed(1, 2, 3, 4, 5);
            faultIs(q, kind, places[kind - 1]);
        }
        Due.sound(q, "1");
        faultIs(q, 0, Due.NONE);
        Due.sound(q, "1 x");
        faultIs(q, 1, 2);
        Due.shop(q, "");
        faultIs(q, 0, Due.NONE);
        Due.sound(q, "1 ".repeat(151));
        faultIs(q, 4, 300);
    }

    private static void faultIs(QuietCut q, int kind, int place) {
        Due.due("fault(0)", q.fault(0), kind);
        Due.due("fault(1)", q.fault(1), place);
        for (int what : new int[] {-1, 2, 3, Due.MIN, Due.MAX}) {
            Due.due("fault(" + what + ")", q.fault(what), Due.NONE);
        }
    }

    private static void toldCall() {
        Due.sentence("10: how many teeth, 11: how many of sway; 20 + i: the i-th of teeth, 30 + i: of sway. NONE for others.");
        String[] rows = {"1", "1 2", "1 2 3", "1 2 3 4", "1 2 3 4 5", "1 2 3 4 5 6"};
        for (int teeth = 1; teeth <= 4; teeth++) {
            for (int sway = 1; sway <= 6; sway++) {
                QuietCut q = Due.shopOf("teeth " + rows[teeth - 1] + ";sway " + rows[sway - 1] + ";");
                for (int what = -3; what <= 50; what++) {
                    int i = what % 10;
                    int want = what < 20 || what >= 40 ? Due.NONE : i < (what < 30 ? teeth : sway) ? i + 1 : Due.NONE;
                    want = what == 10 ? teeth : what == 11 ? sway : want;
                    if (what < 0 || what > 9) {
                        Due.due("told(" + what + ")", q.told(what), want);
                    }
                }
            }
        }
        for (int what : new int[] {Due.MIN, Due.MAX, -20, -30, 1000}) {
            Due.due("told(" + what + ")", new QuietCut().told(what), Due.NONE);
        }
    }

    private static void tellsCall() {
        Due.sentence("What force tells of h, w (what 0), wall of l, g (1), wear of h (2; the second number is nothing). 0 for another what.");
        QuietCut q = Due.shopOf("force h*10+w;wall l*100+g;wear h*1000;");
        Due.due("force", q.tells(0, 3, 4), 34);
        Due.due("wall", q.tells(1, 3, 4), 304);
        for (int second : new int[] {0, 4, -1, Due.MIN, Due.MAX}) {
            Due.due("wear", q.tells(2, 3, second), 3000);
        }
        for (int what : new int[] {-1, 3, 4, Due.MIN, Due.MAX}) {
            Due.due("tells(" + what + ")", q.tells(what, 3, 4), 0);
        }
        // The bounds of a pass (9999; 0 and 999; 0) are nothing here.
        Due.due("force beyond 9999", q.tells(0, 5000, 0), 50000);
        Due.due("force below -9999", q.tells(0, -5000, 0), -50000);
        Due.due("wall beyond 999", q.tells(1, 10, 5), 1005);
        Due.due("wall below 0", q.tells(1, -1, 0), -100);
        Due.due("wear below 0", q.tells(2, -1, 0), -1000);
    }

    private static void soundText() {
        Due.sentence("A SOUND: numbers, a text [\"-\"] N {[\"-\"] N}, at most 150.");
        soundGoesOn("", List.of("5", "-"));
        soundGoesOn("5 ", List.of("5", "-", ""));
        soundGoesOn("-", List.of("5"));
        soundGoesOn("5 - ", List.of("5"));
        soundGoesOn("-7 5 -3 ", List.of("5", "-", ""));
        for (int many : new int[] {1, 2, 149, 150}) {
            Due.due(many + " numbers", Due.sound(new QuietCut(), "7 ".repeat(many)), many);
            Due.due(many + " numbers", Due.sound(new QuietCut(), "-7".repeat(many)), many);
        }
        Due.sentence("NONE with a FAULT (KIND 1, or 4: the 151st, at its N; the one before stays)");
        String most = "7 ".repeat(150);
        Object[][] faults = {{most + "7", 4, 300}, {most + "-7", 4, 301}, {most + "-\n 7 !", 4, 303}, {most + "-", 1, 301}, {most + "--7", 1, 301}, {most + "00007", 1, 300},
            {most + "-00007", 1, 301}, {most + "x", 1, 300}, {"7 ".repeat(500), 4, 300}, {"-7".repeat(151), 4, 301}, {"", 1, 0}, {"-", 1, 1}, {"7 +7", 1, 2}, {"7;", 1, 1}};
        for (Object[] fault : faults) {
            Due.dueSoundFault((String) fault[0], (Integer) fault[1], (Integer) fault[2]);
            QuietCut q = new QuietCut();
            Due.sound(q, "0 5 0 -7");
            Due.due("a fault", Due.sound(q, (String) fault[0]), Due.NONE);
            Due.due("how many stay", q.count(6), 4);
            Due.due("the numbers stay", q.ringsOut(2, 1, 1, 11) * 10 + q.ringsOut(2, 1, 1, 12), 30 + Due.NONE);
        }
    }

    private static void soundGoesOn(String text, List<String> with) {
        for (String token : TOKENS) {
            QuietCut q = new QuietCut();
            int answer = Due.sound(q, text + token);
            boolean whole = with.contains(token) && (token.equals("5") || token.isEmpty());
            String call = "sound() of " + text + token;
            Due.holds(call, whole ? answer > 0 : answer == Due.NONE);
            Due.due("fault(0) of " + call, q.fault(0), whole ? 0 : 1);
            Due.due("fault(1) of " + call, q.fault(1), whole ? Due.NONE : with.contains(token) ? text.length() + token.length() : text.length());
        }
    }
}
