import java.lang.reflect.Array;
import java.lang.reflect.Constructor;
import java.lang.reflect.Field;
import java.lang.reflect.Method;
import java.lang.reflect.Modifier;
import java.nio.charset.StandardCharsets;
import java.nio.file.Files;
import java.nio.file.Path;
import java.util.ArrayDeque;
import java.util.Deque;
import java.util.IdentityHashMap;
import java.util.List;
import java.util.Map;
import java.util.Set;
import java.util.TreeSet;
import java.util.regex.Pattern;

/** The rules of LANGUAGE.md that can be looked up: the face, what the source may not hold, how much an object keeps. */
public final class RulesTest {
    private static final Path SOURCE = Path.of("src/main/java/QuietLine.java");
    private static int wrong = 0;

    private static void must(boolean holds, String otherwise) {
        if (!holds) {
            wrong++;
            System.out.println(otherwise);
        }
    }

    private static final Set<String> FACE = Set.of(
            "int feed(int,int,int,int,int)", "boolean end(int)", "int fault()", "int line()", "int rule(int)",
            "int send(int)", "int put(int)", "int byteAt(int)", "int flip(int,int)", "int lose(int)",
            "int insert(int,int)", "int noise(int,long)", "int read(int)", "int take(int)", "int hand(int)",
            "int renew(int)", "int channel(int,int)", "int event(int,int)", "int stuff(int)", "int unstuff(int)",
            "int box(int)", "int shortest()", "int bound(int)", "int frame(int,int)", "int harm(int,int)",
            "int blind(int)", "int cost(int,int)", "int share(int,int)", "int flushed(int)", "int undo()",
            "int image()", "int back()", "int status(int)", "int most(int)", "int count(int)");

    private static String written(Method m) {
        StringBuilder b = new StringBuilder(m.getReturnType().getName()).append(' ').append(m.getName()).append('(');
        for (Class<?> type : m.getParameterTypes()) {
            b.append(b.charAt(b.length() - 1) == '(' ? "" : ",").append(type.getName());
        }
        return b.append(')').toString();
    }

    private static void face() {
        must(Modifier.isPublic(QuietLine.class.getModifiers()) && Modifier.isFinal(QuietLine.class.getModifiers()),
                "the class is public and final");
        Set<String> seen = new TreeSet<>();
        Set<String> names = new TreeSet<>();
        for (Method m : QuietLine.class.getDeclaredMethods()) {
            if (Modifier.isPublic(m.getModifiers())) {
                seen.add(written(m));
                names.add(m.getName());
            } else {
                must(Modifier.isPrivate(m.getModifiers()), "not private: " + m);
            }
        }
        must(seen.equals(new TreeSet<>(FACE)), "another face: " + seen);
        for (Constructor<?> c : QuietLine.class.getDeclaredConstructors()) {
            must(Modifier.isPublic(c.getModifiers()) && c.getParameterCount() == 0, "another constructor: " + c);
        }
        for (Field f : QuietLine.class.getDeclaredFields()) {
            boolean constant = f.getName().equals("NONE") || f.getName().equals("HIDDEN");
            must(Modifier.isPrivate(f.getModifiers()) != constant, "not as private as due: " + f);
        }
        classes(names);
    }

    private static void classes(Set<String> names) {
        Class<?>[] inside = QuietLine.class.getDeclaredClasses();
        must(inside.length <= 12, "more than some twelve classes");
        for (Class<?> c : inside) {
            must(Modifier.isStatic(c.getModifiers()) && !Modifier.isPublic(c.getModifiers()), "not static: " + c);
            for (Method m : c.getDeclaredMethods()) {
                must(!names.contains(m.getName()), "bears the name of a public one: " + m);
                must(m.getParameterCount() <= 7, "more than seven parameters: " + m);
            }
            long fields = java.util.Arrays.stream(c.getDeclaredFields())
                    .filter(f -> !Modifier.isStatic(f.getModifiers())).count();
            must(fields <= 20, "more than some twenty fields: " + c);
            for (Field f : c.getDeclaredFields()) {
                must(!Modifier.isStatic(f.getModifiers()) || Modifier.isFinal(f.getModifiers()), "static: " + f);
            }
        }
    }

    private static void source() throws java.io.IOException {
        String source = Files.readString(SOURCE, StandardCharsets.ISO_8859_1);
        String code = source.replaceAll("(?s)/\\*.*?\\*/", "").replaceAll("//[^\n]*", "");
        List<String> banned = List.of("->", "::", "\\btry\\b", "\\bcatch\\b", "\\bfinally\\b", "\\bsynchronized\\b",
                "\\bassert\\b", "\\bvar\\b", "Exact\\b", "\\bSystem\\.(?!arraycopy\\b)", "\\bRandom\\b", "\\bThread\\b",
                "\\bpackage\\b", "import (?!java\\.util\\.NoSuchElementException;)", "\\bpublic static (?!final\\b)",
                "\" \\+", "\\+ \"", "\\bwhile \\(true\\)", "for \\(;;\\)");
        for (String pattern : banned) {
            must(!Pattern.compile(pattern).matcher(code).find(), "the source holds " + pattern);
        }
        for (int i = 0; i < source.length(); i++) {
            must(source.charAt(i) < 127, "a sign above 126 at " + i);
        }
        methodLengths(code);
    }

    private static void methodLengths(String code) {
        String[] lines = code.split("\n");
        for (int i = 0; i < lines.length; i++) {
            int indent = lines[i].length() - lines[i].stripLeading().length();
            if (lines[i].endsWith("{") && lines[i].contains("(") && (indent == 4 || indent == 8)
                    && !lines[i].matches("\\s*(if|for|while|switch|\\}).*")) {
                int end = i;
                while (end < lines.length && !lines[end].equals(" ".repeat(indent) + "}")) {
                    end++;
                }
                must(end - i <= 60, "longer than sixty lines: " + lines[i].strip());
            }
        }
    }

    /** A run that fills all there is: four CHANNELS with eight long messages each way, a full LINE, twelve ACTS. */
    private static QuietLine filled() {
        QuietLine x = new QuietLine();
        text(x, "check none;size 60;longest 60;channel 8;channel 8;channel 8;channel 8");
        x.line();
        for (int round = 0; round < 2; round++) {
            for (int k = 0; k < 8; k++) {
                for (int c = 0; c < 4; c++) {
                    text(x, "x".repeat(120));
                    x.send(c);
                }
            }
            for (int k = 0; k < 8 && round == 0; k++) {
                x.put(60);
                x.read(600);
                for (int c = 0; c < 4; c++) {
                    x.renew(c);
                }
            }
        }
        for (int k = 0; k < 16; k++) {
            x.put(60);
            x.insert(0, 1);
        }
        x.image();
        x.flushed(0);
        x.harm(0, 1);
        return x;
    }

    private static void text(QuietLine x, String text) {
        x.end(0);
        for (int i = 0; i < text.length(); i += 20) {
            int[] five = new int[5];
            for (int k = 0; k < 20; k++) {
                five[k / 4] = five[k / 4] << 8 | (i + k < text.length() ? text.charAt(i + k) : 0);
            }
            x.feed(five[0], five[1], five[2], five[3], five[4]);
        }
        x.end(text.length());
    }

    /** {objects and arrays, fields and elements} that can be reached. */
    private static long[] kept(Object root) throws IllegalAccessException {
        Map<Object, Boolean> seen = new IdentityHashMap<>();
        Deque<Object> open = new ArrayDeque<>(List.of(root));
        seen.put(root, true);
        long cells = 0;
        while (!open.isEmpty()) {
            Object o = open.pop();
            if (o.getClass().isArray()) {
                cells += Array.getLength(o);
                for (int i = 0; o instanceof Object[] && i < Array.getLength(o); i++) {
                    reach(Array.get(o, i), seen, open);
                }
                continue;
            }
            for (Field f : o.getClass().getDeclaredFields()) {
                if (!Modifier.isStatic(f.getModifiers())) {
                    cells++;
                    f.setAccessible(true);
                    if (!f.getType().isPrimitive()) {
                        reach(f.get(o), seen, open);
                    }
                }
            }
        }
        return new long[] {seen.size(), cells};
    }

    private static void reach(Object o, Map<Object, Boolean> seen, Deque<Object> open) {
        if (o != null && seen.put(o, true) == null) {
            open.push(o);
        }
    }

    private static void room() throws IllegalAccessException {
        long[] fresh = kept(new QuietLine());
        long[] full = kept(filled());
        System.out.println("rules: a new object keeps " + fresh[0] + " objects, " + fresh[1] + " cells; a full one "
                + full[0] + ", " + full[1]);
        must(fresh[0] < 500 && fresh[1] < 2000, "a new object is too large");
        must(full[0] < 2000 && full[1] < 170000, "a full object is too large");
    }

    public static void main(String[] args) throws Exception {
        face();
        source();
        room();
        if (wrong != 0) {
            System.exit(1);
        }
    }
}
