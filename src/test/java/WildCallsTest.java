import java.lang.reflect.InvocationTargetException;
import java.lang.reflect.Method;
import java.lang.reflect.Modifier;
import java.util.Arrays;
import java.util.Comparator;
import java.util.Random;

/** No call may throw, whatever its numbers and whatever came ahead of it; the same calls give the same answers. */
public final class WildCallsTest {
    private static final int OBJECTS = 400;
    private static final int CALLS = 512;
    private static final int[] EDGES = {Integer.MIN_VALUE, Integer.MAX_VALUE, -100000, -1000, -1, 0, 1, 2, 3, 4, 5, 6, 9, 10, 12, 13, 15, 16, 17, 20, 21, 30,
        35, 36, 60, 61, 99, 100, 200, 300, 301, 400, 401, 999, 1000, 1001, 5000, 5001, 9999, 10000, 65535, 65536};
    private static final String SIGNS = " \n;()+-*/%0123456789hwlg";
    private static final String[] WORDS = {"sectors ", "rings ", "mass ", "stiff ", "damp ", "limit ", "mark ", "turns ", "teeth ", "sway ", "force ", "wall ", "wear ",
        "force h*h*h;", "wall l-g;", "wear h/2;", "stiff 0 3;", "damp 0 3;", "teeth 0 15 7;", "sway 9 0;", "rings 6;", "sectors 16;", "mass 1;", "limit 9999;", "mark 9999;"};

    public static void main(String[] args) throws IllegalAccessException {
        Method[] methods = Arrays.stream(QuietCut.class.getDeclaredMethods()).filter(m -> Modifier.isPublic(m.getModifiers()))
                .sorted(Comparator.comparing(Method::getName)).toArray(Method[]::new);
        for (int seed = 0; seed < OBJECTS; seed++) {
            if (run(methods, seed) != run(methods, seed)) {
                System.out.println("wild run " + seed + " gave other answers the second time");
                System.exit(1);
            }
        }
        System.out.println("no wild call threw");
    }

    private static long run(Method[] methods, int seed) throws IllegalAccessException {
        Random random = new Random(seed);
        QuietCut q = new QuietCut();
        long answers = seed;
        for (int i = 0; i < CALLS; i++) {
            Method m = random.nextInt(8) == 0 ? null : methods[random.nextInt(methods.length)];
            if (m == null) {
                feed(q, random);
                continue;
            }
            Object[] numbers = new Object[m.getParameterCount()];
            for (int j = 0; j < numbers.length; j++) {
                int way = random.nextInt(10);
                numbers[j] = way == 0 ? random.nextInt() : way < 3 ? EDGES[random.nextInt(EDGES.length)] : random.nextInt(way < 8 ? 5 : 25);
            }
            try {
                answers = answers * 31 + (Integer) m.invoke(q, numbers);
            } catch (InvocationTargetException e) {
                System.out.println("wild run " + seed + ": " + m.getName() + Arrays.toString(numbers) + " threw " + e.getCause());
                System.exit(1);
            }
        }
        return answers;
    }

    private static void feed(QuietCut q, Random random) {
        StringBuilder b = new StringBuilder();
        for (int parts = random.nextInt(12); parts > 0; parts--) {
            b.append(random.nextBoolean() ? WORDS[random.nextInt(WORDS.length)] : "" + SIGNS.charAt(random.nextInt(SIGNS.length())));
        }
        q.end(0);
        for (int i = 0; i < b.length(); i += 20) {
            int[] five = new int[5];
            for (int j = 0; j < 20; j++) {
                five[j / 4] = five[j / 4] << 8 | (i + j < b.length() ? b.charAt(i + j) : ' ');
            }
            q.feed(five[0], five[1], five[2], five[3], five[4]);
        }
        if (random.nextInt(3) > 0) {
            q.shop();
        } else {
            q.sound();
        }
    }
}
