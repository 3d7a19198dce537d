import java.lang.reflect.InvocationTargetException;
import java.lang.reflect.Method;
import java.lang.reflect.Modifier;
import java.util.Arrays;
import java.util.Comparator;
import java.util.NoSuchElementException;
import java.util.Random;

/**
 * No call may ever throw by itself, for any arguments in any state (rule 7 of LANGUAGE.md): all calls of the face with
 * arguments at and far beyond their bounds, 512 on each object; channel alone throws, and nothing but what it says.
 */
public final class AnyArgumentsTest {
    private static final int CALLS = 512;
    /** Bounds of the document, one less, one more; numbers that go round when they are multiplied or added to. */
    private static final int[] EDGES = {0, 1, 2, 3, 4, 5, 7, 8, 9, 11, 12, 13, 15, 16, 39, 40, 41, 59, 60, 61, 119, 120,
        121, 199, 200, 201, 255, 256, 299, 300, 301, 599, 600, 601, -1, -2, 858993459, 429496729, 1 << 30, -(1 << 30),
        Integer.MAX_VALUE, Integer.MAX_VALUE - 1, Integer.MIN_VALUE, Integer.MIN_VALUE + 1};
    private static final String[] LINES = {
        "channel 8;channel 8;channel 8;channel 8;size 60;longest 60;check none",
        "way pairs;longest 2;pairs 30;channel 1;check crc",
        "way reduced;longest 2;size 1;channel 8;channel 1",
        "longest 60;pairs 1;way pairs;size 1;check none;channel 8"};
    private static int wrong = 0;
    private static long calls = 0;
    private final Random random;
    private final Method[] face;
    private final QuietLine x = new QuietLine();

    private AnyArgumentsTest(long seed, Method[] face) {
        random = new Random(seed);
        this.face = face;
    }

    private Object argument(Class<?> type) {
        if (type == long.class) {
            return random.nextBoolean() ? random.nextLong() : (long) EDGES[random.nextInt(EDGES.length)];
        }
        int sort = random.nextInt(3);
        return sort == 0 ? EDGES[random.nextInt(EDGES.length)] : sort == 1 ? random.nextInt(8) : random.nextInt();
    }

    private void call(Method method) throws IllegalAccessException {
        Class<?>[] types = method.getParameterTypes();
        Object[] arguments = new Object[types.length];
        for (int k = 0; k < types.length; k++) {
            arguments[k] = argument(types[k]);
        }
        calls++;
        try {
            method.invoke(x, arguments);
        } catch (InvocationTargetException e) {
            boolean told = method.getName().equals("channel") && e.getCause().getClass() == NoSuchElementException.class;
            if (!told) {
                wrong++;
                System.out.println(method.getName() + Arrays.toString(arguments) + " threw " + e.getCause());
            }
        }
    }

    private int line(String text) {
        x.end(0);
        for (int i = 0; i < text.length(); i += 20) {
            int[] five = new int[5];
            for (int k = 0; k < 20; k++) {
                five[k / 4] = five[k / 4] << 8 | (i + k < text.length() ? text.charAt(i + k) : 0);
            }
            x.feed(five[0], five[1], five[2], five[3], five[4]);
        }
        x.end(text.length());
        x.line();
        return 4 + (text.length() + 19) / 20;
    }

    private void run() throws IllegalAccessException {
        int used = random.nextInt(5) == 0 ? 0 : line(LINES[random.nextInt(LINES.length)]);
        boolean filling = random.nextBoolean();
        while (used < CALLS) {
            if (filling && used < CALLS / 2) {
                x.feed(random.nextInt(), random.nextInt(), random.nextInt(), random.nextInt(), random.nextInt());
                x.send(random.nextInt(4));
                x.put(60);
                x.renew(random.nextInt(4));
                used += 4;
            } else {
                call(face[random.nextInt(face.length)]);
                used++;
            }
        }
    }

    public static void main(String[] args) throws IllegalAccessException {
        Method[] face = Arrays.stream(QuietLine.class.getDeclaredMethods())
            .filter(m -> Modifier.isPublic(m.getModifiers()))
            .sorted(Comparator.comparing(Method::getName)).toArray(Method[]::new);
        for (long seed = 0; seed < 3000 && wrong < 5; seed++) {
            new AnyArgumentsTest(seed, face).run();
        }
        System.out.println("any arguments: " + face.length + " methods, " + calls + " calls, " + wrong + " wrong");
        if (wrong != 0 || face.length != 35) {
            System.exit(1);
        }
    }
}
