import java.lang.reflect.InvocationTargetException;
import java.lang.reflect.Method;
import java.util.Arrays;
import java.util.Comparator;
import java.util.List;
import java.util.Random;

/**
 * Any calls with any arguments in any state: nothing is ever thrown, the same calls give the same answers, asking
 * changes nothing, and what an image has kept comes back.
 */
public final class AnyCallsTest {
    private static final int[] NUMBERS = {-1, 0, 1, 2, 3, 4, 5, 6, 7, 8, 9, 10, 15, 16, 19, 20, 21, 60, 99, 100, 101, 102,
        115, 116, 200, 201, 205, 206, 215, 216, 999, 1000, -2, -3, Integer.MIN_VALUE, Integer.MAX_VALUE};
    private static final String[] WORDS = {"post", "rider", "station", "odds", "halt", "eat", "grace", "bishop", "other",
        "pull", "seen", "pos", "postt", ";", "0", "1", "2", "15", "16", "30", "999", "1000", "\u00ff", "A", "-1"};
    private static final Method[] FACE = face();
    private static final List<String> TELLING = List.of("feed", "end", "text", "image", "again");

    public static void main(String[] args) throws IllegalAccessException {
        for (int seed = 0; seed < 300; seed++) {
            sameAnswers(seed);
            imageComesBack(seed);
            asANewObject(seed);
        }
        Told.finish();
    }

    private static Method[] face() {
        Method[] methods = ChestnutLine.class.getMethods();
        Method[] own = Arrays.stream(methods).filter(m -> m.getDeclaringClass() == ChestnutLine.class)
            .toArray(Method[]::new);
        Arrays.sort(own, Comparator.comparing(Method::getName));
        return own;
    }

    private static void sameAnswers(int seed) throws IllegalAccessException {
        ChestnutLine x = new ChestnutLine();
        ChestnutLine y = new ChestnutLine();
        Random random = new Random(seed);
        for (int i = 0; i < 100; i++) {
            if (random.nextInt(4) == 0) {
                String text = anyText(random);
                int sort = random.nextInt(3);
                int at = random.nextInt(3) - 1;
                x.end(0);
                y.end(0);
                Told.due("text", Told.text(x, sort, at, text), Told.text(y, sort, at, text));
            }
            Method call = FACE[random.nextInt(FACE.length)];
            Object[] with = anyArguments(random, call);
            String name = call.getName() + Arrays.toString(with) + " of seed " + seed;
            Told.due(name, answer(x, call, with), answer(y, call, with));
        }
    }

    private static void imageComesBack(int seed) throws IllegalAccessException {
        ChestnutLine x = new ChestnutLine();
        Random random = new Random(seed + 1000000L);
        tellSomething(x, random);
        Told.feed(x, anyText(random));
        int k = random.nextInt(3);
        Told.due("image", x.image(k), true);
        long before = allAnswers(x);
        Told.due("asking changes nothing, seed " + seed, allAnswers(x), before);
        x.end(0);
        tellSomething(x, random);
        tellSomething(x, random);
        Told.due("again", x.again(k), true);
        Told.due("as the image has it, seed " + seed, allAnswers(x), before);
    }

    /** What is asked has the answer of a new object that was told the same, whatever was asked ahead of it. */
    private static void asANewObject(int seed) throws IllegalAccessException {
        ChestnutLine x = new ChestnutLine();
        tellSomething(x, new Random(seed));
        tellSomething(x, new Random(seed + 1));
        Random random = new Random(seed + 2000000L);
        for (int i = 0; i < 30; i++) {
            ChestnutLine y = new ChestnutLine();
            tellSomething(y, new Random(seed));
            tellSomething(y, new Random(seed + 1));
            Method call = FACE[random.nextInt(FACE.length)];
            if (!TELLING.contains(call.getName())) {
                Object[] with = anyArguments(random, call);
                String name = call.getName() + Arrays.toString(with) + " behind others, of seed " + seed;
                Told.due(name, answer(x, call, with), answer(y, call, with));
            }
        }
    }

    private static void tellSomething(ChestnutLine x, Random random) {
        for (int i = 0; i < 4; i++) {
            int sort = random.nextInt(3);
            int at = random.nextInt(3) - 1;
            if (sort == 0) {
                String text = new Naive(random, 8).text();
                Told.text(x, 0, at, text.length() > 570 ? Told.SAMPLE : text);
            } else {
                String row = (sort == 1 ? "pull " : "seen ") + random.nextInt(6) + " " + random.nextInt(6) + ";";
                Told.text(x, sort, at, row + row);
            }
            x.end(0);
        }
    }

    /** One number that tells (nearly always) whether any answer of the calls that only ask differs. */
    private static long allAnswers(ChestnutLine x) throws IllegalAccessException {
        Random random = new Random(5);
        long sum = 0;
        for (Method call : FACE) {
            if (TELLING.contains(call.getName())) {
                continue;
            }
            for (int i = 0; i < 3; i++) {
                sum = sum * 31 + answer(x, call, anyArguments(random, call));
            }
        }
        return sum;
    }

    private static long answer(ChestnutLine x, Method call, Object[] with) throws IllegalAccessException {
        try {
            Object answer = call.invoke(x, with);
            if (answer instanceof Boolean) {
                return (Boolean) answer ? 1 : 0;
            }
            return ((Number) answer).longValue();
        } catch (InvocationTargetException e) {
            Told.due(call.getName() + Arrays.toString(with) + " threw " + e.getCause(), 1, 0);
            return 0;
        }
    }

    private static Object[] anyArguments(Random random, Method call) {
        Class<?>[] types = call.getParameterTypes();
        Object[] with = new Object[types.length];
        for (int i = 0; i < types.length; i++) {
            if (types[i] == boolean.class) {
                with[i] = random.nextBoolean();
            } else {
                int among = random.nextInt(3) == 0 ? NUMBERS.length : 4;
                with[i] = random.nextInt(20) == 0 ? random.nextInt() : NUMBERS[random.nextInt(among)];
            }
        }
        return with;
    }

    private static String anyText(Random random) {
        int kind = random.nextInt(4);
        if (kind == 0) {
            StringBuilder text = new StringBuilder();
            for (int i = random.nextInt(30); i > 0; i--) {
                text.append(WORDS[random.nextInt(WORDS.length)]).append(random.nextBoolean() ? " " : "\n");
            }
            return text.toString();
        }
        String text = kind == 1 ? Told.SAMPLE : kind == 2 ? "pull 0 0;pull 1 1;pull 3 0;" : "seen 0 0;seen 2 31;";
        if (random.nextBoolean()) {
            return text;
        }
        char[] signs = text.toCharArray();
        signs[random.nextInt(signs.length)] = (char) random.nextInt(256);
        return new String(signs, 0, random.nextInt(signs.length + 1));
    }
}
