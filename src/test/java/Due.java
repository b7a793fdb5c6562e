/** What the tests of bounds share: the sentence that is looked at, answers that are due by it, texts that are fed. */
final class Due {
    static final int NONE = -1, RANGE = -2, FULL = -3, STATE = -4;
    static final int NO_HEIGHT = -100000, NOT_PASSED = -1000000;
    static final int MIN = Integer.MIN_VALUE, MAX = Integer.MAX_VALUE;
    // Nothing moves the tool: every pass leaves a flat ring and is quiet.
    static final String STILL = "sectors 4;rings 2;mass 1;force 0;turns 1;";

    private static String sentence = "";
    private static int sentences = 0;
    private static int lookedOfSentence = 1;
    private static int looked = 0;
    private static int wrong = 0;

    private Due() { }

    /** The document's own words; what follows, up to the next sentence, is due by them. */
    static void sentence(String words) {
        lookAtSentence();
        sentence = words;
        sentences++;
        lookedOfSentence = 0;
    }

    private static void lookAtSentence() {
        if (lookedOfSentence == 0) {
            wrong++;
            System.out.println("nothing was looked at for: " + sentence);
        }
    }

    static void due(String call, long got, long want) {
        looked++;
        lookedOfSentence++;
        if (got != want) {
            wrong++;
            System.out.println("by \"" + sentence + "\": " + call + " answered " + got + ", due is " + want);
        }
    }

    static void holds(String what, boolean so) {
        due(what, so ? 1 : 0, 1);
    }

    static void finish(String test) {
        lookAtSentence();
        System.out.println(wrong == 0 ? test + ": all " + looked + " answers of " + sentences + " sentences are as due" : wrong + " answers are not as due");
        if (wrong != 0) {
            System.exit(1);
        }
    }

    /** The tape is this text and nothing else. */
    static void feed(QuietCut q, String text) {
        q.end(0);
        for (int i = 0; i < text.length(); i += 20) {
            int[] five = new int[5];
            for (int j = 0; j < 20; j++) {
                five[j / 4] = five[j / 4] << 8 | (i + j < text.length() ? text.charAt(i + j) : 0);
            }
            q.feed(five[0], five[1], five[2], five[3], five[4]);
        }
        q.end(text.length());
    }

    static int shop(QuietCut q, String text) {
        feed(q, text);
        return q.shop();
    }

    static int sound(QuietCut q, String text) {
        feed(q, text);
        return q.sound();
    }

    /** A new object with a shop whose text must have no fault. */
    static QuietCut shopOf(String text) {
        QuietCut q = new QuietCut();
        int clauses = shop(q, text);
        due("shop() of " + text + " has a fault of kind " + q.fault(0) + " at " + q.fault(1) + ":", Math.min(clauses, 0), 0);
        return q;
    }

    static void dueFault(String text, int kind, int place) {
        QuietCut q = new QuietCut();
        due("shop() of " + text, shop(q, text), NONE);
        due("fault(0) of " + text, q.fault(0), kind);
        due("fault(1) of " + text, q.fault(1), place);
    }

    static void dueSoundFault(String text, int kind, int place) {
        QuietCut q = new QuietCut();
        due("sound() of " + text, sound(q, text), NONE);
        due("fault(0) of " + text, q.fault(0), kind);
        due("fault(1) of " + text, q.fault(1), place);
    }
}
