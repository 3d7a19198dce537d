import java.io.IOException;
import java.nio.charset.StandardCharsets;
import java.nio.file.Files;
import java.nio.file.Path;
import java.util.ArrayList;
import java.util.BitSet;
import java.util.LinkedHashMap;
import java.util.List;
import java.util.Map;
import java.util.Objects;

/**
 * Sentences of the document, each with a test of its own. The words beside a test must stand in the document, and no
 * words of a section that was begun may be left without a test: so a changed document shows here.
 */
abstract class Sentences {
    private static final Path DOCUMENT = Path.of("../shared/DOC.md");
    private static final Map<String, String> SECTIONS = new LinkedHashMap<>();
    private static final Map<String, BitSet> TOLD = new LinkedHashMap<>();
    private static String only = null;
    private static String heading = "";
    private static String words = "";
    private static int tests = 0;
    private static int asked = 0;
    private static int wrong = 0;

    static final int NONE = -1;
    static final int HIDDEN = -1000000;

    /** With an argument "n" the n-th sentence alone is tried, with "list" none is, and all are told by number. */
    static void begin(String[] args) throws IOException {
        only = args.length > 0 ? args[0] : null;
        String all = Files.readString(DOCUMENT, StandardCharsets.UTF_8);
        for (String part : all.split("(?m)^## ")) {
            int end = part.indexOf('\n');
            if (end > 0) {
                SECTIONS.put(part.substring(0, end).strip(), plainWords(part.substring(end)));
            }
        }
    }

    /** A promise begins with its call in a code span, which FaceSentencesTest looks at. */
    private static String plainWords(String text) {
        String body = text.replaceAll("(?m)^```.*$", " ").strip();
        if (body.startsWith("`")) {
            body = body.substring(body.indexOf("`:") + 2);
        }
        return body.replace("`", "").replaceAll("\\s+", " ").strip();
    }

    static void section(String name) {
        heading = name;
        if (!SECTIONS.containsKey(name)) {
            wrong++;
            System.out.println("the document has no section '" + name + "'");
            SECTIONS.put(name, "");
        }
        TOLD.putIfAbsent(name, new BitSet());
    }

    static void sentence(String quoted, Runnable test) {
        tests++;
        words = quoted;
        mark(quoted);
        if (only != null && !only.equals(Integer.toString(tests))) {
            if (only.equals("list")) {
                System.out.println(tests + "\t" + heading + "\t" + quoted);
            }
            return;
        }
        int before = asked;
        try {
            test.run();
        } catch (RuntimeException e) {
            tell("threw " + e);
        }
        if (asked == before) {
            tell("its test asks nothing");
        }
    }

    /** Words that name no answer by themselves. */
    static void passed(String quoted) {
        words = quoted;
        mark(quoted);
    }

    private static void mark(String quoted) {
        String text = SECTIONS.get(heading);
        BitSet told = TOLD.get(heading);
        int at = text.indexOf(quoted);
        if (at < 0) {
            tell("these words do not stand there");
            return;
        }
        // the same words can stand several times ("NONE: ..."): each test of them tells the next place
        int next = at;
        while (next >= 0 && told.get(next, next + quoted.length()).cardinality() == quoted.length()) {
            next = text.indexOf(quoted, next + 1);
        }
        at = next >= 0 ? next : at;
        told.set(at, at + quoted.length());
    }

    static void due(String what, Object got, Object want) {
        asked++;
        if (!Objects.equals(got, want)) {
            tell(what + " answered " + got + ", due is " + want);
        }
    }

    private static void tell(String otherwise) {
        wrong++;
        System.out.println(heading + ": \"" + words + "\": " + otherwise);
    }

    private static List<String> untold(String name) {
        List<String> gaps = new ArrayList<>();
        String text = SECTIONS.get(name);
        BitSet told = TOLD.get(name);
        for (int from = told.nextClearBit(0); from < text.length();) {
            int to = told.nextSetBit(from);
            String gap = text.substring(from, to < 0 ? text.length() : to);
            if (gap.matches("(?s).*[A-Za-z0-9].*")) {
                gaps.add(gap.strip());
            }
            from = to < 0 ? text.length() : told.nextClearBit(to);
        }
        return gaps;
    }

    /** All words of a section. */
    static String wordsOf(String name) {
        return SECTIONS.getOrDefault(name, "");
    }

    /** How many of the document's sections have this begin. */
    static int sections(String begin) {
        return (int) SECTIONS.keySet().stream().filter(name -> name.startsWith(begin)).count();
    }

    static void finish(String name) {
        for (String section : TOLD.keySet()) {
            for (String gap : untold(section)) {
                wrong++;
                System.out.println(section + ": no test stands beside \"" + gap + "\"");
            }
        }
        System.out.println(name + ": " + tests + " sentences, " + asked + " answers, " + wrong + " wrong");
        if (wrong != 0) {
            System.exit(1);
        }
    }
}
