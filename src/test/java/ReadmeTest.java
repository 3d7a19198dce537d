import java.io.IOException;
import java.lang.reflect.InvocationTargetException;
import java.lang.reflect.Method;
import java.nio.charset.StandardCharsets;
import java.nio.file.Files;
import java.nio.file.Path;
import java.util.ArrayList;
import java.util.List;
import java.util.Set;
import java.util.TreeSet;
import java.util.regex.Matcher;
import java.util.regex.Pattern;

/** The example in README.md answers as it says, and README.md names each call. */
public final class ReadmeTest {
    private static final Pattern CALL = Pattern.compile("x\\.(\\w+)\\(([^)]*)\\);(?:\\s*// (-?\\d+):.*)?");
    private static int wrong = 0;

    private static void must(boolean holds, String otherwise) {
        if (!holds) {
            wrong++;
            System.out.println(otherwise);
        }
    }

    private static Method methodOf(String name) {
        for (Method m : QuietLine.class.getMethods()) {
            if (m.getName().equals(name)) {
                return m;
            }
        }
        throw new IllegalStateException("no call " + name);
    }

    private static Object answer(QuietLine x, String name, String numbers)
            throws IllegalAccessException, InvocationTargetException {
        List<Object> given = new ArrayList<>();
        for (String number : numbers.split(", ")) {
            if (!number.isEmpty()) {
                given.add(Integer.decode(number));
            }
        }
        return methodOf(name).invoke(x, given.toArray());
    }

    public static void main(String[] args) throws IOException, ReflectiveOperationException {
        String readme = Files.readString(Path.of("README.md"), StandardCharsets.UTF_8);
        QuietLine x = new QuietLine();
        int told = 0;
        for (String row : readme.split("\n")) {
            Matcher call = CALL.matcher(row);
            if (call.matches()) {
                Object got = answer(x, call.group(1), call.group(2));
                told += call.group(3) == null ? 0 : 1;
                must(call.group(3) == null || call.group(3).equals(got.toString()), row + " answered " + got);
            } else {
                must(!row.startsWith("x."), "not understood: " + row);
            }
        }
        must(told > 0, "no example");
        Set<String> unnamed = new TreeSet<>();
        for (Method m : QuietLine.class.getDeclaredMethods()) {
            if (java.lang.reflect.Modifier.isPublic(m.getModifiers()) && !readme.contains("`" + m.getName() + "`")) {
                unnamed.add(m.getName());
            }
        }
        must(unnamed.isEmpty(), "README.md does not name " + unnamed);
        System.out.println("readme: " + told + " answers, " + wrong + " wrong");
        if (wrong != 0) {
            System.exit(1);
        }
    }
}
