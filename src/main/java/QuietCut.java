import java.util.Arrays;

/** A shop's reckoning house for cuts that shake; the document's promises are told method by method. */
public final class QuietCut {
    public static final int NONE = -1;
    public static final int RANGE = -2;
    public static final int FULL = -3;
    public static final int STATE = -4;

    // Heights and x may be below 0, so that NONE or RANGE could be taken for one of them.
    private static final int NO_HEIGHT = -100000;
    private static final int NOT_PASSED = -1000000;

    private static final int MOST_SECTORS = 16;
    private static final int MOST_RINGS = 6;
    private static final int MOST_PLACES = MOST_SECTORS * MOST_RINGS;
    private static final int MOST_SPEED = 9;
    private static final int MOST_FEED = 20;
    private static final int MOST_TURNS = 12;
    private static final int FRESH_HEIGHT = 1000;
    private static final int QUIET = 0;
    private static final int MARKED = 1;
    private static final int SHAKEN = 2;

    private static final int SYNTAX_FAULT = 1;
    private static final int RANGE_FAULT = 2;
    private static final int TWICE_FAULT = 3;
    private static final int ROOM_FAULT = 4;

    private final Tape tape;
    private final Shop shop;
    private final Shop spareShop;
    private final ShopReader reader;
    private final Piece piece;
    private final Lathe lathe;
    private final Chooser chooser;
    private final Jobs jobs;
    private final Ear ear;
    private final Sound sound;
    private final int[] passed;
    private boolean anyPassed;
    private int faultKind;
    private int faultPlace;

    public QuietCut() {
        tape = new Tape();
        shop = new Shop();
        spareShop = new Shop();
        reader = new ShopReader(tape, spareShop);
        piece = new Piece(shop);
        lathe = new Lathe(shop);
        chooser = new Chooser(shop, piece, lathe);
        jobs = new Jobs(piece, lathe);
        ear = new Ear(shop, lathe);
        sound = new Sound();
        passed = new int[7];
        faultPlace = NONE;
    }

    public int feed(int a, int b, int c, int d, int e) {
        if (!tape.hasRoomFor(20)) {
            return FULL;
        }
        tape.add(a);
        tape.add(b);
        tape.add(c);
        tape.add(d);
        tape.add(e);
        return tape.length;
    }

    public int end(int n) {
        if (n < 0 || n > tape.length) {
            return NONE;
        }
        tape.length = n;
        return n;
    }

    // ---- the shop

    public int shop() {
        noteFault(reader.read());
        if (faultKind != 0) {
            return NONE;
        }
        shop.copyFrom(spareShop);
        piece.makeFresh(FRESH_HEIGHT);
        jobs.forget();
        ear.forget();
        return reader.clauses;
    }

    private void noteFault(int kind) {
        faultKind = kind;
        faultPlace = kind == 0 ? NONE : tape.place;
        tape.length = 0;
    }

    public int fault(int what) {
        if (what == 0) {
            return faultKind;
        }
        return what == 1 ? faultPlace : NONE;
    }

    public int told(int what) {
        return shop.numberTold(what);
    }

    public int tells(int what, int a, int b) {
        return what < Shop.FORCE || what > Shop.WEAR ? 0 : shop.sumAt(what).value(a, b);
    }

    // ---- the piece

    public int piece(int height) {
        if (!Piece.mayBeHigh(height)) {
            return RANGE;
        }
        piece.makeFresh(height);
        return 1;
    }

    public int height(int r, int s) {
        return piece.has(r, s) ? piece.heights[Piece.placeOf(r, s)] : NO_HEIGHT;
    }

    public int set(int r, int s, int height) {
        if (!piece.has(r, s) || !Piece.mayBeHigh(height)) {
            return NO_HEIGHT;
        }
        return piece.putByHand(Piece.placeOf(r, s), height);
    }

    public int change() {
        int was = piece.wear;
        piece.wear = 0;
        return was;
    }

    public int attempt(int r, int speed, int feed, int turns, int stiff, int damp) {
        if (!lathe.takes(r, speed, feed, turns) || !Lathe.mayHold(stiff, damp)) {
            return RANGE;
        }
        int verdict = lathe.run(piece.heights, piece.wear, stiff, damp);
        if (verdict >= QUIET) {
            notePassed();
        }
        return verdict;
    }

    public int cut(int r, int speed, int feed, int turns, int stiff, int damp) {
        if (!lathe.takes(r, speed, feed, turns) || !Lathe.mayHold(stiff, damp)) {
            return RANGE;
        }
        int verdict = lathe.run(piece.heights, piece.wear, stiff, damp);
        if (verdict < QUIET) {
            return verdict;
        }
        if (piece.passes >= Piece.MOST_PASSES) {
            return FULL;
        }
        piece.takePass(lathe);
        notePassed();
        return verdict;
    }

    private void notePassed() {
        passed[0] = lathe.wave;
        passed[1] = lathe.time;
        passed[2] = lathe.out;
        passed[3] = lathe.farthest;
        passed[4] = lathe.x;
        passed[5] = lathe.wear;
        passed[6] = lathe.begun;
        anyPassed = true;
    }

    public int passed(int what) {
        return anyPassed && what >= 0 && what < passed.length ? passed[what] : NOT_PASSED;
    }

    public int left(int r, int s, int what) {
        return piece.has(r, s) ? piece.leftBy(Piece.placeOf(r, s), what) : NONE;
    }

    // ---- what is quiet

    public int sure(int r, int speed, int feed, int turns) {
        return lathe.takes(r, speed, feed, turns) ? chooser.sureness() : RANGE;
    }

    public int deepest(int r, int speed) {
        return lathe.takes(r, speed, 1, 1) ? chooser.deepestFeed(r, speed, 0) : RANGE;
    }

    public int best(int r) {
        return shop.hasRing(r) ? chooser.bestSpeed(r) : RANGE;
    }

    public int plan(int r, int depth) {
        if (!shop.hasRing(r) || depth < 1 || depth > Chooser.MOST_DEPTH) {
            return RANGE;
        }
        return chooser.planTime(r, depth);
    }

    public int planned(int what) {
        return chooser.plannedPass(what);
    }

    public int bestTeeth(int r, int speed, int many, int list) {
        if (!lathe.takes(r, speed, 1, 1) || !Chooser.mayChoose(many, list)) {
            return RANGE;
        }
        return chooser.bestSet(r, speed, many, list);
    }

    public int job(int r, int speed, int feed, int turns) {
        return lathe.takes(r, speed, feed, turns) ? jobs.add(r, speed, feed, turns) : RANGE;
    }

    public int order(int stiff, int damp) {
        return Lathe.mayHold(stiff, damp) ? jobs.leastWaves(stiff, damp) : RANGE;
    }

    public int ordered(int i) {
        return jobs.orderedJob(i);
    }

    public int until(int r, int speed, int feed, int turns, int stiff, int damp) {
        if (!lathe.takes(r, speed, feed, turns) || !Lathe.mayHold(stiff, damp)) {
            return RANGE;
        }
        return jobs.quietTimes(stiff, damp);
    }

    // ---- what was heard

    public int offer(int r, int speed, int feed, int turns) {
        return lathe.takes(r, speed, feed, turns) ? ear.addOffer() : RANGE;
    }

    public int heard(int told, int o, int verdict) {
        return ear.addHeard(told, o, verdict);
    }

    public int right(int told, int k, int verdict) {
        return ear.addRight(told, k, verdict);
    }

    public int fit(int known) {
        return known < 0 || known > Ear.LAST_STEP ? RANGE : ear.fittingPairs(known);
    }

    public int next() {
        return ear.nextOffer();
    }

    // ---- sounds

    public int sound() {
        noteFault(sound.read(tape));
        return faultKind == 0 ? sound.many : NONE;
    }

    public int ringsOut(int t, int n, int m, int a) {
        if (!Sound.mayBeRound(t) || n < 1 || n > Sound.MOST_ROUND || m < 1 || m > n || a < 0 || a > 9999) {
            return RANGE;
        }
        return sound.firstRinging(t, n, m, a);
    }

    public int forced(int t) {
        return Sound.mayBeRound(t) ? sound.isForced(t) : RANGE;
    }

    public int count(int what) {
        switch (what) {
            case 0:
                return piece.wear;
            case 1:
                return piece.passes;
            case 2:
                return jobs.many;
            case 3:
                return ear.offers;
            case 4:
                return ear.heards;
            case 5:
                return ear.rights;
            case 6:
                return sound.many;
            case 7:
                return tape.length;
            default:
                return NONE;
        }
    }

    /** The bytes that were fed, and the tokens that are read from them one by one. */
    private static final class Tape {
        static final int MOST = 1000;
        static final int END = 0;
        static final int WORD = 1;
        static final int NUMBER = 2;
        static final int SIGN = 3;
        static final int WRONG = 4;
        private static final int LONGEST_WORD = 8;
        private static final int LONGEST_NUMBER = 4;
        private static final String SIGNS = ";()+-*/%";

        private final byte[] bytes = new byte[MOST];
        int length;
        private int at;
        int kind;
        int place;
        // Of a number what it is, of a sign which one, of a word of one letter that letter (else 0).
        int value;

        boolean hasRoomFor(int more) {
            return length + more <= MOST;
        }

        void add(int four) {
            for (int shift = 24; shift >= 0 && length < MOST; shift -= 8) {
                bytes[length] = (byte) (four >> shift);
                length++;
            }
        }

        void rewind() {
            at = 0;
        }

        void readToken() {
            while (at < length && isBlank(byteAt(at))) {
                at++;
            }
            place = at;
            value = 0;
            int first = byteAt(at);
            if (at >= length) {
                kind = END;
            } else if (isLetter(first)) {
                readWord(first);
            } else if (isDigit(first)) {
                readNumber();
            } else {
                kind = SIGNS.indexOf((char) first) >= 0 ? SIGN : WRONG;
                value = first;
                at++;
            }
        }

        private void readWord(int first) {
            while (at < length && isLetter(byteAt(at))) {
                at++;
            }
            kind = at - place <= LONGEST_WORD ? WORD : WRONG;
            value = at - place == 1 ? first : 0;
        }

        private void readNumber() {
            while (at < length && isDigit(byteAt(at))) {
                value = value * 10 + byteAt(at) - '0';
                at++;
            }
            kind = at - place <= LONGEST_NUMBER ? NUMBER : WRONG;
        }

        boolean isWord(String word) {
            if (kind != WORD || at - place != word.length()) {
                return false;
            }
            for (int i = 0; i < word.length(); i++) {
                if (byteAt(place + i) != word.charAt(i)) {
                    return false;
                }
            }
            return true;
        }

        boolean isSign(char sign) {
            return kind == SIGN && value == sign;
        }

        private int byteAt(int i) {
            return i >= 0 && i < length ? bytes[i] & 255 : 0;
        }

        private static boolean isBlank(int b) {
            return b == 32 || b == 10;
        }

        private static boolean isLetter(int b) {
            return b >= 'a' && b <= 'z';
        }

        private static boolean isDigit(int b) {
            return b >= '0' && b <= '9';
        }
    }

    /** A sum of the shop's text: read token by token, kept with operands ahead of what joins them. */
    private static final class Formula {
        private static final int MOST_OPERANDS = 12;
        private static final int MOST_OPEN = 4;
        // 12 operands, 11 signs that join them, and at most 4 minuses ahead of each operand.
        private static final int MOST_CODES = 80;
        // 4 that are open, and on each of 5 levels a + or - and a *, / or % that wait.
        private static final int MOST_WAITING = 16;
        // A number is its own code; these are below all numbers.
        private static final int FIRST = -1;
        private static final int SECOND = -2;
        private static final int NEGATE = -3;

        private final int[] codes = new int[MOST_CODES];
        private int length;
        private final int[] stack = new int[MOST_OPERANDS];
        private final int[] waiting = new int[MOST_WAITING];
        private int waits;
        private int operands;
        private int open;
        private int parentheses;
        private boolean wantsOperand;

        void beFirstLetter() {
            length = 0;
            putCode(FIRST);
        }

        void beZero() {
            length = 0;
            putCode(0);
        }

        void copyFrom(Formula other) {
            length = other.length;
            System.arraycopy(other.codes, 0, codes, 0, MOST_CODES);
        }

        void begin() {
            length = 0;
            waits = 0;
            operands = 0;
            open = 0;
            parentheses = 0;
            wantsOperand = true;
        }

        boolean mayEnd() {
            return !wantsOperand && parentheses == 0;
        }

        void finish() {
            joinDownTo(1);
        }

        /** Takes the token that the tape stands at: 0, or the kind of its fault. */
        int takeToken(Tape tape, String letters) {
            if (!wantsOperand) {
                return takeBehindOperand(tape);
            }
            if (tape.isSign('(') || tape.isSign('-')) {
                return takeOpening(tape.isSign('(') ? '(' : NEGATE);
            }
            if (tape.kind == Tape.NUMBER) {
                return takeOperand(tape.value);
            }
            int letter = tape.kind == Tape.WORD && tape.value != 0 ? letters.indexOf((char) tape.value) : NONE;
            if (letter < 0) {
                return SYNTAX_FAULT;
            }
            return takeOperand(letter == 0 ? FIRST : SECOND);
        }

        private int takeOpening(int code) {
            if (open >= MOST_OPEN) {
                return ROOM_FAULT;
            }
            open++;
            if (code == '(') {
                parentheses++;
            }
            putWaiting(code);
            return 0;
        }

        private int takeOperand(int code) {
            if (operands >= MOST_OPERANDS) {
                return ROOM_FAULT;
            }
            operands++;
            putCode(code);
            closeMinuses();
            wantsOperand = false;
            return 0;
        }

        private int takeBehindOperand(Tape tape) {
            if (tape.isSign(')') && parentheses > 0) {
                joinDownTo(1);
                waits--;
                parentheses--;
                open--;
                closeMinuses();
                return 0;
            }
            int strength = tape.kind == Tape.SIGN ? strengthOf(tape.value) : 0;
            if (strength == 0) {
                return SYNTAX_FAULT;
            }
            joinDownTo(strength);
            putWaiting(tape.value);
            wantsOperand = true;
            return 0;
        }

        // A minus of a factor is open only until that factor ends, so it never waits for what follows.
        private void closeMinuses() {
            while (waits > 0 && waiting[waits - 1] == NEGATE) {
                waits--;
                open--;
                putCode(NEGATE);
            }
        }

        private void joinDownTo(int strength) {
            while (waits > 0 && strengthOf(waiting[waits - 1]) >= strength) {
                waits--;
                putCode(joinCode(waiting[waits]));
            }
        }

        private void putWaiting(int code) {
            if (waits < MOST_WAITING) {
                waiting[waits] = code;
                waits++;
            }
        }

        private void putCode(int code) {
            if (length < MOST_CODES) {
                codes[length] = code;
                length++;
            }
        }

        // How strongly a sign binds its two sides; 0 for what joins nothing.
        private static int strengthOf(int sign) {
            if (sign == '*' || sign == '/' || sign == '%') {
                return 2;
            }
            return sign == '+' || sign == '-' ? 1 : 0;
        }

        private static int joinCode(int sign) {
            return NEGATE - sign;
        }

        int value(int first, int second) {
            int depth = 0;
            for (int i = 0; i < length && i < MOST_CODES; i++) {
                int code = codes[i];
                if (code >= SECOND) {
                    if (depth >= MOST_OPERANDS) {
                        return 0;
                    }
                    stack[depth] = code == FIRST ? first : code == SECOND ? second : code;
                    depth++;
                } else if (code == NEGATE) {
                    if (depth < 1) {
                        return 0;
                    }
                    stack[depth - 1] = -stack[depth - 1];
                } else {
                    if (depth < 2) {
                        return 0;
                    }
                    depth--;
                    stack[depth - 1] = joined(NEGATE - code, stack[depth - 1], stack[depth]);
                }
            }
            return depth == 1 ? stack[0] : 0;
        }

        private static int joined(int sign, int a, int b) {
            switch (sign) {
                case '+':
                    return a + b;
                case '-':
                    return a - b;
                case '*':
                    return a * b;
                case '/':
                    return b == 0 ? 0 : a / b;
                default:
                    return b == 0 ? 0 : a % b;
            }
        }
    }

    /** What the shop's text tells. */
    private static final class Shop {
        // Where each number stands in the row, as told() numbers them.
        static final int SECTORS = 0;
        static final int RINGS = 1;
        static final int MASS = 2;
        static final int STIFF = 3;
        static final int DAMP = 5;
        static final int LIMIT = 7;
        static final int MARK = 8;
        static final int TURNS = 9;
        static final int TEETH_MANY = 10;
        static final int SWAY_MANY = 11;
        static final int TEETH = 20;
        static final int SWAY = 30;
        // The sums, as tells() numbers them.
        static final int FORCE = 0;
        static final int WALL = 1;
        static final int WEAR = 2;
        static final int MOST_TEETH = 4;
        static final int MOST_SWAY = 6;
        private static final int[] UNTOLD = {8, 3, 4, 8, 8, 2, 2, 500, 20, 4, 1, 1};

        final int[] numbers = new int[SWAY + MOST_SWAY];
        final Formula force = new Formula();
        final Formula wall = new Formula();
        final Formula wear = new Formula();

        Shop() {
            beUntold();
        }

        void beUntold() {
            Arrays.fill(numbers, 0);
            System.arraycopy(UNTOLD, 0, numbers, 0, UNTOLD.length);
            force.beFirstLetter();
            wall.beZero();
            wear.beZero();
        }

        void copyFrom(Shop other) {
            System.arraycopy(other.numbers, 0, numbers, 0, numbers.length);
            force.copyFrom(other.force);
            wall.copyFrom(other.wall);
            wear.copyFrom(other.wear);
        }

        void put(int slot, int number) {
            if (slot >= 0 && slot < numbers.length) {
                numbers[slot] = number;
            }
        }

        int numberTold(int what) {
            if (what >= 0 && what <= SWAY_MANY) {
                return numbers[what];
            }
            if (what >= TEETH && what < TEETH + numbers[TEETH_MANY] && what < TEETH + MOST_TEETH) {
                return numbers[what];
            }
            if (what >= SWAY && what < SWAY + numbers[SWAY_MANY] && what < SWAY + MOST_SWAY) {
                return numbers[what];
            }
            return NONE;
        }

        boolean hasRing(int ring) {
            return ring >= 0 && ring < numbers[RINGS];
        }

        Formula sumAt(int slot) {
            if (slot == FORCE) {
                return force;
            }
            return slot == WALL ? wall : wear;
        }

        int swayAt(int round) {
            return round >= 0 && round < MOST_SWAY ? numbers[SWAY + round] : 0;
        }

        int swayBehind(int round) {
            return round + 1 < numbers[SWAY_MANY] ? round + 1 : 0;
        }

        /** The time of a pass of the told turns, by speed and sway alone. */
        int passTime(int speed) {
            int sectors = numbers[SECTORS] * numbers[TURNS];
            int time = sectors * speed;
            int round = 0;
            for (int i = 0; i < sectors; i++) {
                time += swayAt(round);
                round = swayBehind(round);
            }
            return time;
        }
    }

    /** The clauses of the shop's text: numbers with their bounds, or a sum with its letters. */
    private enum Clause {
        SECTORS("sectors", Shop.SECTORS, 1, 4, 16),
        RINGS("rings", Shop.RINGS, 1, 1, 6),
        MASS("mass", Shop.MASS, 1, 1, 99),
        STIFF("stiff", Shop.STIFF, 2, 0, 200),
        DAMP("damp", Shop.DAMP, 2, 0, 200),
        LIMIT("limit", Shop.LIMIT, 1, 1, 9999),
        MARK("mark", Shop.MARK, 1, 0, 9999),
        TURNS("turns", Shop.TURNS, 1, 1, 12),
        TEETH("teeth", Shop.TEETH, Shop.MOST_TEETH, 0, 15),
        SWAY("sway", Shop.SWAY, Shop.MOST_SWAY, 0, 9),
        FORCE("force", Shop.FORCE, "hw"),
        WALL("wall", Shop.WALL, "lg"),
        WEAR("wear", Shop.WEAR, "h");

        final String word;
        final int slot;
        final int most;
        final int low;
        final int high;
        final String letters;

        Clause(String word, int slot, int most, int low, int high) {
            this.word = word;
            this.slot = slot;
            this.most = most;
            this.low = low;
            this.high = high;
            this.letters = "";
        }

        Clause(String word, int slot, String letters) {
            this.word = word;
            this.slot = slot;
            this.most = 0;
            this.low = 0;
            this.high = 0;
            this.letters = letters;
        }

        boolean isSum() {
            return !letters.isEmpty();
        }

        /** Where the shop keeps how many numbers there are, if that is free from 1 on; else NONE. */
        int manySlot() {
            if (slot == Shop.TEETH) {
                return Shop.TEETH_MANY;
            }
            return slot == Shop.SWAY ? Shop.SWAY_MANY : NONE;
        }
    }

    /** Reads the tape as the shop's text into a shop that is thrown away when there is a fault. */
    private static final class ShopReader {
        private static final Clause[] CLAUSES = Clause.values();
        private static final int SPAN = 3;

        private final Tape tape;
        private final Shop target;
        int clauses;
        private int wordsTold;
        // The clause that is being read; NONE between two of them.
        private int open;
        private int numbers;
        private int latest;

        ShopReader(Tape tape, Shop target) {
            this.tape = tape;
            this.target = target;
        }

        /** 0, or the kind of the fault at the token that the tape stands at then. */
        int read() {
            target.beUntold();
            clauses = 0;
            wordsTold = 0;
            open = NONE;
            tape.rewind();
            for (int n = 0; n <= Tape.MOST; n++) {
                tape.readToken();
                if (open == NONE && tape.kind == Tape.END) {
                    return 0;
                }
                int fault = takeToken();
                if (fault != 0) {
                    return fault;
                }
            }
            return SYNTAX_FAULT;
        }

        private int takeToken() {
            if (open < 0 || open >= CLAUSES.length) {
                return takeClauseWord();
            }
            Clause clause = CLAUSES[open];
            return clause.isSum() ? takeOfSum(clause) : takeOfNumbers(clause);
        }

        private int takeClauseWord() {
            int found = NONE;
            for (int i = 0; i < CLAUSES.length; i++) {
                if (tape.isWord(CLAUSES[i].word)) {
                    found = i;
                }
            }
            if (found == NONE) {
                return SYNTAX_FAULT;
            }
            if ((wordsTold >> found & 1) != 0) {
                return TWICE_FAULT;
            }
            wordsTold |= 1 << found;
            open = found;
            numbers = 0;
            if (CLAUSES[found].isSum()) {
                target.sumAt(CLAUSES[found].slot).begin();
            }
            return 0;
        }

        private int takeOfSum(Clause clause) {
            Formula sum = target.sumAt(clause.slot);
            if (tape.isSign(';') && sum.mayEnd()) {
                sum.finish();
                closeClause();
                return 0;
            }
            return sum.takeToken(tape, clause.letters);
        }

        private int takeOfNumbers(Clause clause) {
            boolean anyMany = clause.manySlot() != NONE;
            if (tape.isSign(';') && (anyMany ? numbers > 0 : numbers == clause.most)) {
                if (anyMany) {
                    target.put(clause.manySlot(), numbers);
                }
                closeClause();
                return 0;
            }
            if (tape.kind != Tape.NUMBER || !anyMany && numbers == clause.most) {
                return SYNTAX_FAULT;
            }
            if (!isInBounds(clause)) {
                return RANGE_FAULT;
            }
            if (numbers == clause.most) {
                return ROOM_FAULT;
            }
            target.put(clause.slot + numbers, tape.value);
            numbers++;
            latest = tape.value;
            return 0;
        }

        private boolean isInBounds(Clause clause) {
            if (tape.value < clause.low || tape.value > clause.high) {
                return false;
            }
            boolean endsSpan = clause.manySlot() == NONE && numbers == 1;
            return !endsSpan || tape.value >= latest && tape.value <= latest + SPAN;
        }

        private void closeClause() {
            open = NONE;
            clauses++;
        }
    }

    /** The heights as they stand, the wear, and who left each place. */
    private static final class Piece {
        static final int MOST_PASSES = 200;
        private static final int BY_PASS = 0;
        private static final int X_LIFT = 20000;

        private final Shop shop;
        final int[] heights = new int[MOST_PLACES];
        int wear;
        int passes;
        // Of each place the pass (NONE: nobody), the turn, the tooth, and x lifted above 0.
        private final int[][] left = new int[4][MOST_PLACES];

        Piece(Shop shop) {
            this.shop = shop;
            makeFresh(FRESH_HEIGHT);
        }

        void makeFresh(int height) {
            Arrays.fill(heights, height);
            Arrays.fill(left[BY_PASS], NONE);
            wear = 0;
            passes = 0;
        }

        boolean has(int ring, int sector) {
            return shop.hasRing(ring) && sector >= 0 && sector < shop.numbers[Shop.SECTORS];
        }

        static int placeOf(int ring, int sector) {
            return ring * MOST_SECTORS + sector;
        }

        static boolean mayBeHigh(int height) {
            return height >= 100 && height <= 5000;
        }

        int putByHand(int place, int height) {
            if (place < 0 || place >= MOST_PLACES) {
                return NO_HEIGHT;
            }
            int was = heights[place];
            heights[place] = height;
            left[BY_PASS][place] = NONE;
            return was;
        }

        int leftBy(int place, int what) {
            if (place < 0 || place >= MOST_PLACES || what < 0 || what >= left.length) {
                return NONE;
            }
            return left[BY_PASS][place] == NONE ? NONE : left[what][place];
        }

        void takePass(Lathe lathe) {
            lathe.storeHeights(heights);
            wear = lathe.wear;
            for (int s = 0; s < shop.numbers[Shop.SECTORS] && s < MOST_SECTORS; s++) {
                int place = placeOf(lathe.ring, s);
                if (lathe.leftTurn[s] != NONE && place >= 0 && place < MOST_PLACES) {
                    left[BY_PASS][place] = passes;
                    left[1][place] = lathe.leftTurn[s];
                    left[2][place] = lathe.leftTooth[s];
                    left[3][place] = lathe.leftX[s] + X_LIFT;
                }
            }
            passes++;
        }
    }

    /** Runs a pass on a row of its own, so that one that is only tried leaves nothing behind. */
    private static final class Lathe {
        private static final int MOST_FORCE = 9999;
        private static final int MOST_WALL = 999;
        private static final int MOST_WEAR = 30000;
        private static final int MOST_HOLD = 300;
        // No height is so far from 0: it starts as 5000 at most and loses little more than the limit of x.
        private static final int BEYOND_HEIGHTS = 1000000;

        private final Shop shop;
        int ring;
        private int speed;
        private int feed;
        private int turns;
        private final int[] teeth = new int[Shop.MOST_TEETH];
        // 0: the shop's own teeth; else the set that stands in their place.
        private int teethSet;
        private int teethMany;
        private final int[] heights = new int[MOST_SECTORS];
        final int[] leftTurn = new int[MOST_SECTORS];
        final int[] leftTooth = new int[MOST_SECTORS];
        final int[] leftX = new int[MOST_SECTORS];
        int wear;
        int x;
        private int v;
        int wave;
        int time;
        int out;
        int farthest;
        int begun;

        Lathe(Shop shop) {
            this.shop = shop;
        }

        static boolean mayHold(int stiff, int damp) {
            return stiff >= 0 && stiff <= MOST_HOLD && damp >= 0 && damp <= MOST_HOLD;
        }

        /** Takes what the next runs are of; false when that is no pass. */
        boolean takes(int ring, int speed, int feed, int turns) {
            this.ring = ring;
            this.speed = speed;
            this.feed = feed;
            this.turns = turns;
            return shop.hasRing(ring) && speed >= 1 && speed <= MOST_SPEED
                    && feed >= 1 && feed <= MOST_FEED && turns >= 1 && turns <= MOST_TURNS;
        }

        void useTeeth(int set) {
            teethSet = set;
        }

        private void mountTeeth() {
            teethMany = 0;
            if (teethSet == 0) {
                for (int i = 0; i < shop.numbers[Shop.TEETH_MANY] && i < Shop.MOST_TEETH; i++) {
                    teeth[i] = shop.numbers[Shop.TEETH + i];
                    teethMany++;
                }
                return;
            }
            for (int n = 0; n < 16 && teethMany < Shop.MOST_TEETH; n++) {
                if ((teethSet >> n & 1) != 0) {
                    teeth[teethMany] = n;
                    teethMany++;
                }
            }
        }

        /** The verdict of the pass that was taken, from these heights and this wear; STATE: it can't be. */
        int run(int[] from, int wearBefore, int stiff, int damp) {
            int sectors = shop.numbers[Shop.SECTORS];
            if (!shop.hasRing(ring) || sectors < 1 || sectors > MOST_SECTORS || from.length < MOST_PLACES) {
                return STATE;
            }
            System.arraycopy(from, Piece.placeOf(ring, 0), heights, 0, sectors);
            int level = greatest(heights, 0, sectors);
            if (level - feed * turns < 1) {
                return STATE;
            }
            int gap = gapIn(from, level);
            begin(wearBefore);
            boolean shaken = false;
            int round = 0;
            for (int turn = 0; turn < turns && !shaken; turn++) {
                begun++;
                for (int i = 0; i < sectors && !shaken; i++) {
                    int force = bite(i, turn, level - feed * (turn + 1));
                    int hold = stiff + within(shop.wall.value(heights[i], gap), 0, MOST_WALL);
                    shaken = swingsTooFar(speed + shop.swayAt(round), force, hold, damp);
                    round = shop.swayBehind(round);
                }
            }
            wave = greatest(heights, 0, sectors) - least(heights, 0, sectors);
            if (shaken) {
                return SHAKEN;
            }
            return wave > shop.numbers[Shop.MARK] ? MARKED : QUIET;
        }

        private void begin(int wearBefore) {
            mountTeeth();
            Arrays.fill(leftTurn, NONE);
            wear = wearBefore;
            x = 0;
            v = 0;
            time = 0;
            out = 0;
            farthest = 0;
            begun = 0;
        }

        private int bite(int sector, int turn, int floor) {
            int sectors = shop.numbers[Shop.SECTORS];
            int force = 0;
            for (int tooth = 0; tooth < teethMany && tooth < Shop.MOST_TEETH; tooth++) {
                int place = Math.floorMod(sector + teeth[tooth], Math.max(1, sectors));
                int chip = place < MOST_SECTORS ? heights[place] - floor - x : 0;
                if (chip <= 0) {
                    out++;
                    continue;
                }
                force += within(shop.force.value(chip, wear), -MOST_FORCE, MOST_FORCE);
                wear = Math.min(MOST_WEAR, wear + within(shop.wear.value(chip, 0), 0, MOST_WEAR));
                heights[place] = floor + x;
                leftTurn[place] = turn;
                leftTooth[place] = tooth;
                leftX[place] = x;
            }
            return force;
        }

        // The innermost loop of all: it works on numbers of its own and hands them back at its end.
        private boolean swingsTooFar(int steps, int force, int hold, int damp) {
            int mass = Math.max(1, shop.numbers[Shop.MASS]);
            int limit = shop.numbers[Shop.LIMIT];
            int place = x;
            int pace = v;
            int most = farthest;
            boolean tooFar = false;
            int done = 0;
            while (done < steps && !tooFar) {
                pace += (force - hold * place - damp * pace) / mass;
                place += pace;
                done++;
                int far = place < 0 ? -place : place;
                most = far > most ? far : most;
                tooFar = far > limit;
            }
            x = place;
            v = pace;
            farthest = most;
            time += done;
            return tooFar;
        }

        private int gapIn(int[] from, int level) {
            int sectors = shop.numbers[Shop.SECTORS];
            boolean hasInner = shop.hasRing(ring - 1);
            boolean hasOuter = shop.hasRing(ring + 1);
            int inner = hasInner ? least(from, Piece.placeOf(ring - 1, 0), sectors) : level;
            int outer = hasOuter ? least(from, Piece.placeOf(ring + 1, 0), sectors) : level;
            if (hasInner && hasOuter) {
                return Math.min(inner, outer);
            }
            return hasInner ? inner : outer;
        }

        private static int greatest(int[] row, int start, int many) {
            int most = -BEYOND_HEIGHTS;
            for (int i = start; i < start + many && i >= 0 && i < row.length; i++) {
                most = Math.max(most, row[i]);
            }
            return most;
        }

        private static int least(int[] row, int start, int many) {
            int least = BEYOND_HEIGHTS;
            for (int i = start; i < start + many && i >= 0 && i < row.length; i++) {
                least = Math.min(least, row[i]);
            }
            return least;
        }

        private static int within(int number, int low, int high) {
            return Math.max(low, Math.min(high, number));
        }

        void storeHeights(int[] into) {
            int sectors = shop.numbers[Shop.SECTORS];
            int start = Piece.placeOf(ring, 0);
            for (int i = 0; i < sectors && i < MOST_SECTORS; i++) {
                if (start >= 0 && start + i < into.length) {
                    into[start + i] = heights[i];
                }
            }
        }
    }

    /** Looks for what stays quiet for all stiffness and damping of the spans, on the piece as it is. */
    private static final class Chooser {
        static final int MOST_DEPTH = 400;
        private static final int FIRST_PLANNED = 10;
        private static final int MOST_LISTED = 6;
        private static final int MOST_TOOTH_SETS = 64;

        private final Shop shop;
        private final Piece piece;
        private final Lathe lathe;
        // Of each feed the least speed with which it is quiet for all; 0: none.
        private final int[] speedOf = new int[MOST_FEED + 1];
        // Of each depth in feeds the least time of a row that makes it (NONE), and its fewest passes.
        private final int[] leastTime = new int[MOST_DEPTH + 1];
        private final int[] fewest = new int[MOST_DEPTH + 1];
        private final int[] planRow = new int[MOST_DEPTH];
        private int planMany;

        Chooser(Shop shop, Piece piece, Lathe lathe) {
            this.shop = shop;
            this.piece = piece;
            this.lathe = lathe;
        }

        /** Of the pass that the lathe took. */
        int sureness() {
            boolean anyQuiet = false;
            boolean anyLoud = false;
            for (int stiff = shop.numbers[Shop.STIFF]; stiff <= shop.numbers[Shop.STIFF + 1]; stiff++) {
                for (int damp = shop.numbers[Shop.DAMP]; damp <= shop.numbers[Shop.DAMP + 1]; damp++) {
                    int verdict = lathe.run(piece.heights, piece.wear, stiff, damp);
                    if (verdict == STATE) {
                        return STATE;
                    }
                    anyQuiet |= verdict == QUIET;
                    anyLoud |= verdict != QUIET;
                    if (anyQuiet && anyLoud) {
                        return 2;
                    }
                }
            }
            return anyQuiet ? 1 : 0;
        }

        private boolean isQuietForAll(int ring, int speed, int feed) {
            if (!lathe.takes(ring, speed, feed, shop.numbers[Shop.TURNS])) {
                return false;
            }
            for (int stiff = shop.numbers[Shop.STIFF]; stiff <= shop.numbers[Shop.STIFF + 1]; stiff++) {
                for (int damp = shop.numbers[Shop.DAMP]; damp <= shop.numbers[Shop.DAMP + 1]; damp++) {
                    if (lathe.run(piece.heights, piece.wear, stiff, damp) != QUIET) {
                        return false;
                    }
                }
            }
            return true;
        }

        /** The deepest feed if it is above a floor, else NONE: feeds that could not win are not run. */
        int deepestFeed(int ring, int speed, int floor) {
            for (int feed = MOST_FEED; feed > floor && feed > 0; feed--) {
                if (isQuietForAll(ring, speed, feed)) {
                    return feed;
                }
            }
            return NONE;
        }

        int bestSpeed(int ring) {
            int best = NONE;
            int bestFeed = 0;
            int bestTime = 1;
            for (int speed = 1; speed <= MOST_SPEED; speed++) {
                int time = shop.passTime(speed);
                // feed / time is above bestFeed / bestTime only if feed is above this.
                int floor = bestTime > 0 ? bestFeed * time / bestTime : 0;
                int feed = deepestFeed(ring, speed, floor);
                if (feed != NONE) {
                    best = speed;
                    bestFeed = feed;
                    bestTime = time;
                }
            }
            return best;
        }

        static boolean mayChoose(int many, int list) {
            int listed = Integer.bitCount(list);
            return many >= 1 && many <= Shop.MOST_TEETH && list >= 0 && list < 1 << 16
                    && listed >= many && listed <= MOST_LISTED;
        }

        int bestSet(int ring, int speed, int many, int list) {
            int best = NONE;
            int bestFeed = 0;
            int set = 0;
            for (int n = 0; n < MOST_TOOTH_SETS; n++) {
                // The next greater set of the list's bits; 0 behind the last.
                set = (set - list) & list;
                if (set == 0) {
                    break;
                }
                if (Integer.bitCount(set) == many) {
                    lathe.useTeeth(set);
                    int feed = deepestFeed(ring, speed, bestFeed);
                    if (feed != NONE) {
                        best = set;
                        bestFeed = feed;
                    }
                }
            }
            lathe.useTeeth(0);
            return best;
        }

        int planTime(int ring, int depth) {
            int turns = shop.numbers[Shop.TURNS];
            if (turns < 1 || depth % turns != 0 || depth > MOST_DEPTH) {
                return NONE;
            }
            int feeds = depth / turns;
            findSpeeds(ring, Math.min(feeds, MOST_FEED));
            findLeastTimes(feeds);
            if (leastTime[feeds] == NONE) {
                return NONE;
            }
            keepLeastRow(feeds);
            return leastTime[feeds];
        }

        // A greater speed takes more time with the same feed, so that no best row has it.
        private void findSpeeds(int ring, int mostFeed) {
            Arrays.fill(speedOf, 0);
            for (int feed = 1; feed <= mostFeed && feed <= MOST_FEED; feed++) {
                for (int speed = 1; speed <= MOST_SPEED && speedOf[feed] == 0; speed++) {
                    if (isQuietForAll(ring, speed, feed)) {
                        speedOf[feed] = speed;
                    }
                }
            }
        }

        private void findLeastTimes(int feeds) {
            leastTime[0] = 0;
            fewest[0] = 0;
            for (int made = 1; made <= feeds && made <= MOST_DEPTH; made++) {
                leastTime[made] = NONE;
                fewest[made] = 0;
            }
            for (int feed = 1; feed <= MOST_FEED; feed++) {
                if (speedOf[feed] != 0) {
                    growTimes(feed, shop.passTime(speedOf[feed]), feeds);
                }
            }
        }

        private void growTimes(int feed, int passTime, int feeds) {
            for (int made = Math.max(1, feed); made <= feeds && made <= MOST_DEPTH; made++) {
                int before = made - feed;
                if (before < 0 || leastTime[before] == NONE) {
                    continue;
                }
                int time = leastTime[before] + passTime;
                int many = fewest[before] + 1;
                boolean less = leastTime[made] == NONE || time < leastTime[made];
                if (less || time == leastTime[made] && many < fewest[made]) {
                    leastTime[made] = time;
                    fewest[made] = many;
                }
            }
        }

        private void keepLeastRow(int feeds) {
            planMany = 0;
            int open = feeds;
            for (int n = 0; n < MOST_DEPTH && open > 0; n++) {
                int code = leastOpening(open);
                if (code == NONE) {
                    return;
                }
                planRow[planMany] = code;
                planMany++;
                open -= feedOf(code);
            }
        }

        private int leastOpening(int open) {
            int least = NONE;
            for (int feed = 1; feed <= MOST_FEED && feed <= open; feed++) {
                int speed = speedOf[feed];
                int rest = open - feed;
                if (speed == 0 || rest > MOST_DEPTH || open > MOST_DEPTH || leastTime[rest] == NONE) {
                    continue;
                }
                int code = MOST_FEED * speed + feed;
                boolean isBest = leastTime[rest] + shop.passTime(speed) == leastTime[open]
                        && fewest[rest] + 1 == fewest[open];
                if (isBest && (least == NONE || code < least)) {
                    least = code;
                }
            }
            return least;
        }

        private static int feedOf(int code) {
            return (code - 1) % MOST_FEED + 1;
        }

        int plannedPass(int what) {
            if (planMany == 0) {
                return NONE;
            }
            if (what == 0) {
                return planMany;
            }
            int i = what - FIRST_PLANNED;
            return what >= FIRST_PLANNED && i < planMany && i < MOST_DEPTH ? planRow[i] : NONE;
        }
    }

    /** Passes that are cut one behind the other, on copies of the piece. */
    private static final class Jobs {
        private static final int MOST_JOBS = 5;
        private static final int MOST_TIMES = 30;

        private final Piece piece;
        private final Lathe lathe;
        // Of each job the ring, the speed, the feed, the turns.
        private final int[][] jobs = new int[4][MOST_JOBS];
        int many;
        // The heights and the wear ahead of the first pass of a row, behind it, and so on.
        private final int[][] heights = new int[MOST_JOBS + 1][MOST_PLACES];
        private final int[] wears = new int[MOST_JOBS + 1];
        private final int[] row = new int[MOST_JOBS];
        private final int[] bestRow = new int[MOST_JOBS];
        private int bestMany;
        private int leastSum;
        private int stiff;
        private int damp;

        Jobs(Piece piece, Lathe lathe) {
            this.piece = piece;
            this.lathe = lathe;
        }

        void forget() {
            many = 0;
            bestMany = 0;
        }

        int add(int ring, int speed, int feed, int turns) {
            if (many >= MOST_JOBS) {
                return FULL;
            }
            jobs[0][many] = ring;
            jobs[1][many] = speed;
            jobs[2][many] = feed;
            jobs[3][many] = turns;
            bestMany = 0;
            many++;
            return many - 1;
        }

        int leastWaves(int stiffness, int damping) {
            if (many == 0) {
                return STATE;
            }
            stiff = stiffness;
            damp = damping;
            leastSum = NONE;
            startFromPiece();
            extendRow(0, 0, 0);
            return leastSum;
        }

        private void startFromPiece() {
            System.arraycopy(piece.heights, 0, heights[0], 0, MOST_PLACES);
            wears[0] = piece.wear;
        }

        // Rows are met from the least on, so that only a lesser sum takes the place of the best.
        private void extendRow(int depth, int used, int sum) {
            if (depth >= many || depth >= MOST_JOBS) {
                leastSum = sum;
                bestMany = many;
                System.arraycopy(row, 0, bestRow, 0, MOST_JOBS);
                return;
            }
            for (int job = 0; job < many; job++) {
                if ((used >> job & 1) == 0 && staysQuiet(job, depth)) {
                    row[depth] = job;
                    int more = sum + lathe.wave;
                    if (leastSum == NONE || more < leastSum) {
                        extendRow(depth + 1, used | 1 << job, more);
                    }
                }
            }
        }

        private boolean staysQuiet(int job, int depth) {
            if (!lathe.takes(jobs[0][job], jobs[1][job], jobs[2][job], jobs[3][job])) {
                return false;
            }
            if (lathe.run(heights[depth], wears[depth], stiff, damp) != QUIET) {
                return false;
            }
            System.arraycopy(heights[depth], 0, heights[depth + 1], 0, MOST_PLACES);
            lathe.storeHeights(heights[depth + 1]);
            wears[depth + 1] = lathe.wear;
            return true;
        }

        int orderedJob(int i) {
            return i >= 0 && i < bestMany && i < MOST_JOBS ? bestRow[i] : NONE;
        }

        /** How many times the pass that the lathe took is quiet. */
        int quietTimes(int stiffness, int damping) {
            startFromPiece();
            for (int times = 0; times < MOST_TIMES; times++) {
                if (lathe.run(heights[0], wears[0], stiffness, damping) != QUIET) {
                    return times;
                }
                lathe.storeHeights(heights[0]);
                wears[0] = lathe.wear;
            }
            return MOST_TIMES;
        }
    }

    /** Offers, what was heard of them and when, and which pairs of stiffness and damping fit that. */
    private static final class Ear {
        static final int LAST_STEP = 999;
        private static final int MOST_OFFERS = 10;
        private static final int MOST_HEARD = 30;
        private static final int MOST_RIGHTS = 20;
        private static final int PAIRS = 16;
        private static final int DAMPINGS = 4;
        private static final int STEP = 0;
        private static final int OF = 1;
        private static final int VERDICT = 2;

        private final Shop shop;
        private final Lathe lathe;
        private final int[] fresh = new int[MOST_PLACES];
        // Of each offer the verdict of each pair: the shop can't change without the offers' going.
        private final int[][] verdicts = new int[MOST_OFFERS][PAIRS];
        int offers;
        // Of each one heard, and of each putting right: the step, the offer or the one heard, the verdict.
        private final int[][] heardRows = new int[3][MOST_HEARD];
        int heards;
        private final int[][] rightRows = new int[3][MOST_RIGHTS];
        int rights;
        private int latestStep;

        Ear(Shop shop, Lathe lathe) {
            this.shop = shop;
            this.lathe = lathe;
            Arrays.fill(fresh, FRESH_HEIGHT);
        }

        void forget() {
            offers = 0;
            heards = 0;
            rights = 0;
            latestStep = 0;
        }

        /** The pass that the lathe took becomes an offer. */
        int addOffer() {
            if (lathe.run(fresh, 0, shop.numbers[Shop.STIFF], shop.numbers[Shop.DAMP]) == STATE) {
                return RANGE;
            }
            if (offers >= MOST_OFFERS) {
                return FULL;
            }
            for (int pair = 0; pair < PAIRS; pair++) {
                if (isInSpans(pair)) {
                    int stiff = shop.numbers[Shop.STIFF] + pair / DAMPINGS;
                    int damp = shop.numbers[Shop.DAMP] + pair % DAMPINGS;
                    verdicts[offers][pair] = lathe.run(fresh, 0, stiff, damp);
                }
            }
            offers++;
            return offers - 1;
        }

        private boolean isInSpans(int pair) {
            return shop.numbers[Shop.STIFF] + pair / DAMPINGS <= shop.numbers[Shop.STIFF + 1]
                    && shop.numbers[Shop.DAMP] + pair % DAMPINGS <= shop.numbers[Shop.DAMP + 1];
        }

        private boolean mayBeTold(int step, int verdict) {
            return step >= latestStep && step <= LAST_STEP && verdict >= 0 && verdict <= SHAKEN;
        }

        int addHeard(int step, int offer, int verdict) {
            if (!mayBeTold(step, verdict) || offer < 0 || offer >= offers) {
                return RANGE;
            }
            if (heards >= MOST_HEARD) {
                return FULL;
            }
            heardRows[STEP][heards] = step;
            heardRows[OF][heards] = offer;
            heardRows[VERDICT][heards] = verdict;
            latestStep = step;
            heards++;
            return heards - 1;
        }

        int addRight(int step, int k, int verdict) {
            if (!mayBeTold(step, verdict) || k < 0 || k >= heards || k >= MOST_HEARD) {
                return RANGE;
            }
            // The document puts it right at a later step than the one at which it was told.
            if (step <= heardRows[STEP][k]) {
                return RANGE;
            }
            if (rights >= MOST_RIGHTS) {
                return FULL;
            }
            rightRows[STEP][rights] = step;
            rightRows[OF][rights] = k;
            rightRows[VERDICT][rights] = verdict;
            latestStep = step;
            rights++;
            return timesRighted(k);
        }

        private int timesRighted(int k) {
            int times = 0;
            for (int i = 0; i < rights && i < MOST_RIGHTS; i++) {
                if (rightRows[OF][i] == k) {
                    times++;
                }
            }
            return times;
        }

        private int verdictKnown(int k, int known) {
            int verdict = heardRows[VERDICT][k];
            for (int i = 0; i < rights && i < MOST_RIGHTS; i++) {
                if (rightRows[OF][i] == k && rightRows[STEP][i] <= known) {
                    verdict = rightRows[VERDICT][i];
                }
            }
            return verdict;
        }

        int fittingPairs(int known) {
            int pairs = 0;
            for (int pair = 0; pair < PAIRS; pair++) {
                if (isInSpans(pair)) {
                    pairs |= 1 << pair;
                }
            }
            for (int k = 0; k < heards && k < MOST_HEARD; k++) {
                if (heardRows[STEP][k] <= known) {
                    pairs &= pairsWith(heardRows[OF][k], verdictKnown(k, known));
                }
            }
            return pairs;
        }

        private int pairsWith(int offer, int verdict) {
            int pairs = 0;
            for (int pair = 0; pair < PAIRS && offer >= 0 && offer < MOST_OFFERS; pair++) {
                if (verdicts[offer][pair] == verdict) {
                    pairs |= 1 << pair;
                }
            }
            return pairs;
        }

        int nextOffer() {
            int pairs = fittingPairs(LAST_STEP);
            int best = NONE;
            // An offer that leaves all pairs under one verdict parts nothing, so it can't win.
            int least = Integer.bitCount(pairs);
            for (int offer = 0; offer < offers; offer++) {
                int most = 0;
                for (int verdict = 0; verdict <= SHAKEN; verdict++) {
                    most = Math.max(most, Integer.bitCount(pairs & pairsWith(offer, verdict)));
                }
                if (most < least) {
                    best = offer;
                    least = most;
                }
            }
            return best;
        }
    }

    /** A row of numbers that was read, and what is heard in it. */
    private static final class Sound {
        static final int MOST_ROUND = 60;
        private static final int MOST_NUMBERS = 150;

        private final int[] numbers = new int[MOST_NUMBERS];
        private final int[] spare = new int[MOST_NUMBERS];
        int many;

        /** 0, or the kind of the fault at the token that the tape stands at then. */
        int read(Tape tape) {
            int found = 0;
            boolean minus = false;
            tape.rewind();
            for (int n = 0; n <= Tape.MOST; n++) {
                tape.readToken();
                if (tape.kind == Tape.NUMBER) {
                    if (found >= MOST_NUMBERS) {
                        return ROOM_FAULT;
                    }
                    spare[found] = minus ? -tape.value : tape.value;
                    found++;
                    minus = false;
                } else if (tape.isSign('-') && !minus) {
                    minus = true;
                } else if (tape.kind == Tape.END && found > 0 && !minus) {
                    keep(found);
                    return 0;
                } else {
                    return SYNTAX_FAULT;
                }
            }
            return SYNTAX_FAULT;
        }

        private void keep(int found) {
            many = found;
            System.arraycopy(spare, 0, numbers, 0, MOST_NUMBERS);
        }

        static boolean mayBeRound(int t) {
            return t >= 1 && t <= MOST_ROUND;
        }

        private int changeAt(int i, int round) {
            if (i < round || i >= MOST_NUMBERS || round < 0) {
                return 0;
            }
            return Math.abs(numbers[i] - numbers[i - round]);
        }

        int firstRinging(int round, int latest, int enough, int above) {
            int ringing = 0;
            for (int i = round; i < many; i++) {
                if (changeAt(i, round) > above) {
                    ringing++;
                }
                int gone = i - latest;
                if (gone >= round && changeAt(gone, round) > above) {
                    ringing--;
                }
                if (ringing >= enough) {
                    return i;
                }
            }
            return NONE;
        }

        int isForced(int round) {
            if (many <= round) {
                return NONE;
            }
            int changes = 0;
            int sum = 0;
            for (int i = round; i < many && i < MOST_NUMBERS && i >= 0; i++) {
                changes += changeAt(i, round);
                sum += Math.abs(numbers[i]);
            }
            return 2 * changes <= sum ? 1 : 0;
        }
    }
}
