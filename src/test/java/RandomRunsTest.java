import java.util.ArrayList;
import java.util.HashMap;
import java.util.List;
import java.util.Map;
import java.util.Random;

/** Long random runs of calls, each answered by QuietCut and by PlainModel; the seeds are told, so runs repeat. */
public final class RandomRunsTest {
    private static final int RUNS = 260;
    private static final int CALLS = 500;
    private static int wrong = 0;
    private static final Map<String, Integer> SEEN = new HashMap<>();

    private final Random random;
    private final int run;
    private final QuietCut x = new QuietCut();
    private final PlainModel m = new PlainModel();
    private int step = 0;
    private boolean parted = false;
    // A run of many small cuts on one piece, to come to the end of what a piece takes.
    private final boolean steady;

    private RandomRunsTest(int run) {
        this.run = run;
        this.random = new Random(7919L * run + 1);
        this.steady = run % 8 == 7;
    }

    public static void main(String[] args) {
        int from = args.length > 1 ? Integer.parseInt(args[1]) : 0;
        int runs = args.length > 2 ? Integer.parseInt(args[2]) : RUNS;
        for (int run = from; run < from + runs; run++) {
            RandomRunsTest test = new RandomRunsTest(run);
            for (int i = 0; i < CALLS && !test.parted; i++) {
                test.oneMore();
            }
        }
        lookAtWhatWasSeen();
        System.out.println(wrong == 0 ? "all random runs are as due" : wrong + " random runs are not as due");
        if (wrong != 0) {
            System.exit(1);
        }
    }

    /** Runs that never meet a kind of answer would prove nothing of it. */
    private static void lookAtWhatWasSeen() {
        String[] kinds = {"attempt 0", "attempt 1", "attempt 2", "attempt -2", "attempt -4", "cut 0", "cut 1", "cut 2", "cut -3", "cut -4", "sure 0", "sure 1", "sure 2",
            "sure -4", "deepest -1", "deepest +", "best -1", "best +", "plan -1", "plan +", "bestTeeth -1", "bestTeeth +", "order -1", "order +", "order 0", "order -4",
            "until 0", "until +", "job -3", "offer -3", "heard -3", "heard -2", "right -3", "right -2", "right +", "next -1", "next 0", "next +", "fit 0", "fit +",
            "ringsOut -1", "ringsOut +", "forced 0", "forced 1", "forced -1", "fault 1", "fault 2", "fault 3", "fault 4", "feed -3", "sound -1", "sound +", "shop -1", "shop +"};
        for (String kind : kinds) {
            if (SEEN.getOrDefault(kind, 0) == 0) {
                System.out.println("the random runs never met: " + kind);
                wrong++;
            }
        }
    }

    private void due(String call, int got, int want) {
        String name = call.substring(0, call.indexOf('('));
        SEEN.merge(name + " " + (want > 0 && !List.of("attempt", "cut", "sure", "forced", "fault").contains(name) ? "+" : want), 1, Integer::sum);
        if (got != want && !parted) {
            wrong++;
            parted = true;
            System.out.println("random run " + run + ": " + call + " answered " + got + ", due is " + want);
        }
    }

    private int pick(int low, int high) {
        return low + random.nextInt(high - low + 1);
    }

    /** Mostly what can be, now and then one beside it. */
    private int near(int low, int high) {
        return random.nextInt(40) == 0 ? (random.nextBoolean() ? low - 1 : high + 1) : pick(low, high);
    }

    private void feed(String text) {
        for (int i = 0; i < text.length(); i += 20) {
            int[] five = new int[5];
            for (int j = 0; j < 20; j++) {
                five[j / 4] = five[j / 4] << 8 | (i + j < text.length() ? text.charAt(i + j) : 0);
            }
            due("feed(..)", x.feed(five[0], five[1], five[2], five[3], five[4]), m.feed(five));
        }
        due("end(" + text.length() + ")", x.end(text.length()), m.end(text.length()));
    }

    // ---- texts

    private String blanks() {
        return random.nextInt(6) == 0 ? " \n".repeat(pick(0, 2)) : " ";
    }

    private String sum(String letters, int[] room, int open) {
        StringBuilder b = new StringBuilder(factor(letters, room, open));
        int more = random.nextInt(3);
        for (int i = 0; i < more && room[0] > 0; i++) {
            b.append(random.nextInt(8) == 0 ? " " : "").append("+-*/%".charAt(random.nextInt(5))).append(factor(letters, room, open));
        }
        return b.toString();
    }

    private String factor(String letters, int[] room, int open) {
        int way = random.nextInt(8);
        if (way == 0 && open < 4) {
            return "-" + factor(letters, room, open + 1);
        }
        if (way == 1 && open < 4 && room[0] > 2) {
            return "(" + sum(letters, room, open + 1) + ")";
        }
        room[0]--;
        return way < 6 ? "" + letters.charAt(random.nextInt(letters.length())) : "" + pick(0, way == 6 ? 9 : 300);
    }

    private String gentleForce() {
        String[] all = {"h", "h/2", "h*2", "h/2+w/9", "h-w", "h*3/2", "h%7", "h-h/3+w%3", "-h", "(h+1)/2", "h/3*2", "0", "h*h/40"};
        return all[random.nextInt(all.length)];
    }

    private String numbers(int many, int high) {
        StringBuilder b = new StringBuilder();
        for (int i = 0; i < many; i++) {
            b.append(blanks()).append(near(0, high));
        }
        return b.toString();
    }

    private String span(int most) {
        int low = pick(0, most);
        int high = low + pick(0, 3);
        return " " + low + " " + (random.nextInt(60) == 0 ? high + 2 : high);
    }

    private String clause(int which) {
        switch (which) {
            case 0: return "sectors " + near(4, random.nextInt(3) == 0 ? 16 : 7);
            case 1: return "rings " + near(1, random.nextInt(3) == 0 ? 6 : 3);
            case 2: return "mass " + near(1, random.nextInt(5) == 0 ? 99 : 9);
            case 3: return "stiff" + span(random.nextInt(5) == 0 ? 200 : 12);
            case 4: return "damp" + span(random.nextInt(5) == 0 ? 200 : 6);
            case 5: return "limit " + near(1, random.nextInt(3) == 0 ? 9999 : 60);
            case 6: return "mark " + (random.nextInt(9) == 0 ? near(0, 9999) : pick(0, 25));
            case 7: return "turns " + near(1, random.nextInt(4) == 0 ? 12 : 4);
            case 8: return "teeth" + numbers(pick(1, random.nextInt(20) == 0 ? 5 : 4), 15);
            case 9: return "sway" + numbers(pick(1, random.nextInt(20) == 0 ? 7 : 6), random.nextInt(2) == 0 ? 2 : 9);
            case 10: return "force " + (random.nextInt(4) == 0 ? sum("hw", new int[] {12}, 0) : gentleForce());
            case 11: return "wall " + (random.nextInt(2) == 0 ? sum("lg", new int[] {12}, 0) : "(l-g)/" + pick(0, 5));
            default: return "wear " + (random.nextInt(2) == 0 ? sum("h", new int[] {12}, 0) : "h/" + pick(0, 9));
        }
    }

    private String shopText() {
        List<Integer> which = new ArrayList<>();
        for (int i = 0; i < 13; i++) {
            if (random.nextInt(10) < 7) {
                which.add(random.nextInt(which.size() + 1), i);
            }
        }
        if (random.nextInt(25) == 0) {
            which.add(pick(0, 12));
        }
        StringBuilder b = new StringBuilder();
        for (int i : which) {
            b.append(random.nextInt(4) == 0 ? " " : "").append(clause(i)).append(";");
        }
        return spoiled(b);
    }

    private String soundText() {
        StringBuilder b = new StringBuilder();
        int many = random.nextInt(8) == 0 ? pick(149, 152) : pick(1, 40);
        int round = pick(1, 6);
        for (int i = 0; i < many; i++) {
            int n = random.nextInt(3) == 0 ? pick(0, 40) : i % round * 7;
            b.append(i > 0 ? " " : "").append(random.nextInt(3) == 0 ? "-" : "").append(n);
        }
        return spoiled(b);
    }

    private String spoiled(StringBuilder b) {
        if (b.length() > 0 && random.nextInt(7) == 0) {
            String signs = ";()+-*/% \nabhwlg0123456789A\t~\u00ff";
            int at = random.nextInt(b.length());
            char c = signs.charAt(random.nextInt(signs.length()));
            int way = random.nextInt(4);
            if (way == 0) {
                b.deleteCharAt(at);
            } else if (way == 1) {
                b.setCharAt(at, c);
            } else if (way == 2) {
                b.insert(at, c);
            } else {
                b.setLength(at);
            }
        }
        return b.length() > 980 ? b.substring(0, 980) : b.toString();
    }

    // ---- calls

    private void oneMore() {
        int way = steady ? pick(5, 44) : random.nextInt(100);
        if (way < 3 && random.nextInt(run % 5 == 0 ? 40 : 3) == 0) {
            callShop();
        } else if (way < 5) {
            callSound();
        } else if (way < 14) {
            callHeard();
        } else if (way < 17) {
            callOffer();
        } else if (way < 25) {
            callAttempt();
        } else if (way < 35 || steady) {
            callCut();
        } else if (way < 50) {
            callAsk();
        } else if (way < 60) {
            callSearch();
        } else if (way < 70) {
            callJobs();
        } else if (way < 76) {
            callPiece();
        } else {
            callTell();
        }
    }

    private void clearTape() {
        due("end(0)", x.end(0), m.end(0));
    }

    private void callShop() {
        clearTape();
        feed(shopText());
        due("shop()", x.shop(), m.shop());
        due("fault(0)", x.fault(0), m.fault(0));
        due("fault(1)", x.fault(1), m.fault(1));
        step = x.count(4) == 0 ? 0 : step;
    }

    private void callSound() {
        clearTape();
        if (random.nextInt(20) == 0) {
            for (int i = 0; i < 51; i++) {
                due("feed(i)", x.feed(i, 2, 3, 4, 5), m.feed(i, 2, 3, 4, 5));
            }
            int n = near(0, 1000);
            due("end(" + n + ")", x.end(n), m.end(n));
            due("count(7)", x.count(7), m.count(7));
            clearTape();
        }
        feed(soundText());
        due("sound()", x.sound(), m.sound());
        due("fault(0)", x.fault(0), m.fault(0));
        due("fault(1)", x.fault(1), m.fault(1));
    }

    private void callHeard() {
        int o = near(0, Math.max(0, m.count(3) - 1));
        int k = near(0, Math.max(0, m.count(4) - 1));
        int told = random.nextInt(30) == 0 ? pick(-1, 1001) : step;
        if (random.nextInt(3) > 0) {
            step = Math.min(999, step + pick(0, 1));
            int verdict = near(0, 2);
            due("heard(" + told + ", " + o + ", " + verdict + ")", x.heard(told, o, verdict), m.heard(told, o, verdict));
        } else {
            int verdict = near(0, 2);
            due("right(" + told + ", " + k + ", " + verdict + ")", x.right(told, k, verdict), m.right(told, k, verdict));
        }
        int known = near(0, step + 1);
        due("fit(" + known + ")", x.fit(known), m.fit(known));
        due("next()", x.next(), m.next());
    }

    private void callOffer() {
        int r = near(0, m.told(1) - 1), s = near(1, 9), f = near(1, 20), t = near(1, 12);
        due("offer(" + r + ", " + s + ", " + f + ", " + t + ")", x.offer(r, s, f, t), m.offer(r, s, f, t));
        due("next()", x.next(), m.next());
    }

    private void callAttempt() {
        int r = near(0, m.told(1) - 1), s = near(1, 9), f = near(1, 20), t = near(1, 12), k = near(0, random.nextInt(3) == 0 ? 300 : 12), d = near(0, random.nextInt(3) == 0 ? 300 : 6);
        due("attempt(" + r + ", " + s + ", " + f + ", " + t + ", " + k + ", " + d + ")", x.attempt(r, s, f, t, k, d), m.attempt(r, s, f, t, k, d));
        lookAtPass();
    }

    private void callCut() {
        int r = near(0, m.told(1) - 1), s = near(1, 9), f = steady ? 1 : near(1, 9), t = steady ? 1 : near(1, 4), k = near(0, 12), d = near(0, 6);
        due("cut(" + r + ", " + s + ", " + f + ", " + t + ", " + k + ", " + d + ")", x.cut(r, s, f, t, k, d), m.cut(r, s, f, t, k, d));
        lookAtPass();
        for (int i = -1; i <= m.told(0); i++) {
            due("height(" + r + ", " + i + ")", x.height(r, i), m.height(r, i));
            for (int what = -1; what <= 4; what++) {
                due("left(" + r + ", " + i + ", " + what + ")", x.left(r, i, what), m.left(r, i, what));
            }
        }
    }

    private void lookAtPass() {
        for (int what = -1; what <= 7; what++) {
            due("passed(" + what + ")", x.passed(what), m.passed(what));
        }
    }

    private void callAsk() {
        int r = near(0, m.told(1) - 1), s = near(1, 9), f = near(1, 20), t = near(1, 12);
        due("sure(" + r + ", " + s + ", " + f + ", " + t + ")", x.sure(r, s, f, t), m.sure(r, s, f, t));
        int k = near(0, 12), d = near(0, 6);
        due("until(" + r + ", " + s + ", " + f + ", " + t + ", " + k + ", " + d + ")", x.until(r, s, f, t, k, d), m.until(r, s, f, t, k, d));
    }

    private void callSearch() {
        int r = near(0, m.told(1) - 1), s = near(1, 9);
        due("deepest(" + r + ", " + s + ")", x.deepest(r, s), m.deepest(r, s));
        if (random.nextInt(3) == 0) {
            due("best(" + r + ")", x.best(r), m.best(r));
        }
        if (random.nextInt(4) == 0) {
            int depth = near(1, 400);
            due("plan(" + r + ", " + depth + ")", x.plan(r, depth), m.plan(r, depth));
            for (int what = -1; what < 40; what++) {
                due("planned(" + what + ")", x.planned(what), m.planned(what));
            }
        }
        if (random.nextInt(6) == 0) {
            int many = near(1, 4), list = 0;
            for (int i = pick(1, 7); i > 0; i--) {
                list |= 1 << near(0, 15);
            }
            due("bestTeeth(" + r + ", " + s + ", " + many + ", " + list + ")", x.bestTeeth(r, s, many, list), m.bestTeeth(r, s, many, list));
        }
    }

    private void callJobs() {
        int r = near(0, m.told(1) - 1), s = near(1, 9), f = near(1, 9), t = near(1, 4);
        if (random.nextInt(4) == 0) {
            due("job(" + r + ", " + s + ", " + f + ", " + t + ")", x.job(r, s, f, t), m.job(r, s, f, t));
        }
        if (random.nextInt(2) == 0) {
            int k = near(0, 20), d = near(0, 6);
            due("order(" + k + ", " + d + ")", x.order(k, d), m.order(k, d));
        }
        for (int i = -1; i < 6; i++) {
            due("ordered(" + i + ")", x.ordered(i), m.ordered(i));
        }
    }

    private void callPiece() {
        int r = near(0, m.told(1) - 1), s = near(0, m.told(0) - 1);
        if (random.nextInt(4) == 0) {
            int h = near(100, random.nextInt(3) == 0 ? 5000 : 160);
            due("piece(" + h + ")", x.piece(h), m.piece(h));
        } else if (random.nextInt(3) == 0) {
            due("change()", x.change(), m.change());
        } else {
            int h = Math.max(99, Math.min(5001, m.height(r, s) + pick(-9, 9)));
            due("set(" + r + ", " + s + ", " + h + ")", x.set(r, s, h), m.set(r, s, h));
        }
    }

    private void callTell() {
        for (int what = -1; what <= 8; what++) {
            due("count(" + what + ")", x.count(what), m.count(what));
        }
        int told = pick(-2, 40);
        due("told(" + told + ")", x.told(told), m.told(told));
        int a = random.nextInt(4) == 0 ? random.nextInt() : pick(-30, 30), b = random.nextInt(4) == 0 ? random.nextInt() : pick(-30, 30), what = pick(-1, 3);
        due("tells(" + what + ", " + a + ", " + b + ")", x.tells(what, a, b), m.tells(what, a, b));
        int t = near(1, random.nextInt(4) == 0 ? 60 : 6), n = near(1, random.nextInt(4) == 0 ? 60 : 5), mm = near(1, Math.max(1, n)), above = near(0, random.nextInt(9) == 0 ? 9999 : 20);
        due("ringsOut(" + t + ", " + n + ", " + mm + ", " + above + ")", x.ringsOut(t, n, mm, above), m.ringsOut(t, n, mm, above));
        due("forced(" + t + ")", x.forced(t), m.forced(t));
        int fault = pick(-1, 2);
        due("fault(" + fault + ")", x.fault(fault), m.fault(fault));
    }
}
