import java.io.IOException;
import java.lang.reflect.Constructor;
import java.lang.reflect.Executable;
import java.lang.reflect.Field;
import java.lang.reflect.Method;
import java.lang.reflect.Modifier;
import java.nio.charset.StandardCharsets;
import java.nio.file.Files;
import java.nio.file.Path;
import java.util.Arrays;
import java.util.Set;
import java.util.TreeSet;
import java.util.function.ToIntFunction;
import java.util.stream.Collectors;

/** What stands in the document ahead of its Terms and behind its promises: what it is, the public face, not promised. */
public final class FaceSentencesTest extends Sentences {

    // ---- what it is

    private static void messages() {
        section("What it is");
        sentence("A noisy line without zeros: a line told as a text;", () -> {
            Bench b = new Bench();
            due("CHANNELS", b.text("size 3; channel 2; way reduced").on().line(), 1);
            due("size", b.on().rule(4), 3);
            due("way", b.on().rule(0), 2);
            due("CREDITS", b.on().channel(0, 0), 2);
        });
        sentence("messages of channels cut into pieces,", () -> {
            Bench b = Bench.of("check none;size 2;channel 8");
            b.send(0, 1, 2, 3, 4, 5);
            due("FRAMES", b.on().put(60), 3);
            due("on the LINE", b.wire(), "4 32 1 2 0 4 1 3 4 0 3 18 5 0");
        });
        sentence("framed with a head and a check,", () -> {
            Bench sum = Bench.of("channel 1;channel 8");
            sum.send(1, 7, 8);
            sum.on().put(1);
            due("HEAD 64 + 32 + 16, sum", sum.wire(), "5 112 7 8 127 0");
            Bench crc = Bench.of("check crc;channel 1");
            crc.send(0, 7);
            crc.on().put(1);
            due("HEAD 32 + 16, crc", crc.wire(), "4 48 7 236 0");
        });
        sentence("stuffed so that no byte is 0, three ways, marks between;", () -> {
            String[] ways = {"plain", "pairs", "reduced"};
            String[] due = {"2 48 1 2 9 0 2 49 1 2 9 0", "23 48 2 9 0 23 49 2 9 0", "2 48 1 9 0 2 49 1 9 0"};
            for (int way = 0; way < 3; way++) {
                Bench b = Bench.of("check none;channel 2;way " + ways[way]);
                b.send(0, 0, 0, 9);
                b.send(0, 0, 0, 9);
                b.on().put(2);
                due(ways[way], b.wire(), due[way]);
            }
        });
        sentence("channels picked by their credits;", () -> {
            Bench b = Bench.of("channel 1;channel 3;channel 2");
            for (int c = 0; c < 3; c++) {
                b.send(c, 1);
                b.send(c, 1);
            }
            String picked = "";
            for (int k = 0; k < 5; k++) {
                picked += b.on().most(1);
                b.on().put(1);
                due("picked last", b.on().rule(10), picked.charAt(k) - '0');
            }
            due("3 CREDITS; 2, behind the last one; 2 alone; 1, behind the last one; 1 alone", picked, "12120");
        });
    }

    private static void noiseAndReader() {
        sentence("bytes on the line that are flipped, lost, put in, by hand or by draws;", () -> {
            Bench b = Bench.of("channel 1").wired(1, 2, 3);
            due("flipped", b.on().flip(0, 255), 254);
            due("lost", b.on().lose(1), 2);
            due("put in", b.on().insert(1, 9), 3);
            due("by hand", b.wire(), "254 9 3");
            b.wired(5, 5, 5, 5, 5, 5);
            due("done", b.on().noise(9, -77L), 9);
            due("by draws", b.wire(), Drawn.noised(9, -77L, 254, 9, 3, 5, 5, 5, 5, 5, 5));
        });
        sentence("a reader that unstuffs, waits for the next mark, puts pieces together, counts what is lost;", () -> {
            Bench b = Bench.of("check none;size 2;channel 8");
            due("no MARK yet", b.heard(2, 32, 2, 5), 0);
            due("bytes the reader has", b.on().rule(8), 4);
            due("a MARK", b.heard(0), 1);
            due("32, 0, 5", b.event(0), "0 32 4 2 0");
            due("the LAST one", b.heard(3, 17, 6, 0), 1);
            due("THERE", b.on().channel(0, 8), 1);
            due("bytes", b.on().take(0), 3);
            due("put together", b.hand(), "0 5 6");
            due("NUMBER 5, 2 EXPECTED", b.heard(2, 53, 0), 1);
            due("LOST", b.on().channel(0, 6), 3);
        });
        sentence("messages taken, by which credits come back;", () -> {
            Bench b = Bench.of("size 1;channel 4");
            b.send(0, 7, 8, 9);
            b.on().put(3);
            b.on().read(600);
            due("CREDITS", b.on().channel(0, 0), 1);
            due("TAKEN", b.on().take(0), 3);
            due("in the HAND", b.hand(), "7 8 9");
            due("CREDITS then", b.on().channel(0, 0), 4);
        });
    }

    private static void thoughts() {
        sentence("what one flipped byte would harm, which flips nobody would see;", () -> {
            Bench none = Bench.of("check none;channel 1");
            none.wired(2, 48, 0);
            due("no FIRST one then", none.on().harm(1, 32), 1);
            due("another NUMBER", none.on().harm(1, 1), 0);
            due("1 .. 63 but 48", none.on().blind(0), 62);
            Bench sum = Bench.of("channel 1");
            sum.wired(3, 48, 48, 0);
            due("the CHECK isn't so", sum.on().harm(1, 1), 1);
            due("each is seen", sum.on().blind(0), 0);
        });
        sentence("the shortest way of stuffing, how long it can be at the most;", () -> {
            Bench b = new Bench();
            due("pairs", b.tape(0, 0).on().shortest(), 1);
            due("reduced", b.tape(1, 200).on().shortest(), 2);
            due("plain", b.tape(1).on().shortest(), 0);
            due("all as long", b.stuffed(0, Bench.sevens(21)).split(" ").length, b.on().bound(21));
        });
        sentence("acts undone, an image. ==== 1.", () -> {
            Bench b = Bench.of("channel 1").wired(1, 2, 3);
            due("an IMAGE", b.on().image(), 3);
            b.on().lose(0);
            b.on().lose(0);
            due("UNDONE", b.on().undo(), 4);
            due("one of two", b.wire(), "2 3");
            due("back", b.on().back(), 3);
            due("all as in the IMAGE", b.wire(), "1 2 3");
        });
    }

    /** An object that stands ahead of its 512th call: acts of all sorts were done, twelve of them can be undone. */
    private static Bench worn() {
        Bench b = Bench.of("check none;size 1;channel 8");
        for (int round = 0; round < 45; round++) {
            b.send(0, round, 255);
            b.on().put(2);
            b.on().flip(1, 255);
            b.on().undo();
            b.on().read(600);
            b.on().take(0);
        }
        while (b.left() > 1) {
            b.on().bound(0);
        }
        return b;
    }

    private static void last(String what, ToIntFunction<QuietLine> call, int want) {
        Bench b = worn();
        due(what + " as the 512th call", call.applyAsInt(b.on()), want);
        due("calls left", b.left(), 0);
    }

    private static void calls() {
        sentence("An object is used for at most 512 calls after it has been made;", () -> {
            last("TAKEN in all", x -> x.channel(0, 11), 45);
            last("EVENTS in all", x -> x.rule(9), 90);
            last("ACTS", x -> x.count(1), 12);
            last("undo", x -> x.undo(), 11);
            last("take", x -> x.take(0), NONE);
            last("hand", x -> x.hand(0), 44);
            last("feed", x -> x.feed(1, 2, 3, 4, 5), 20);
            last("send", x -> x.send(0), 1);
            last("LOST", x -> x.channel(0, 6), 0);
            last("the next NUMBER", x -> x.channel(0, 4), 10);
            last("line", x -> x.line(), NONE);
        });
        passed("what later calls answer is free.");
    }

    // ---- the public face

    /** "public int take(int channel)" without the names of what comes in. */
    private static String withoutNames(String told) {
        return told.replaceAll("(int|long) [a-z]+\\b(?=[,)])", "$1").strip();
    }

    private static String simpleNames(Class<?>[] types) {
        return Arrays.stream(types).map(Class::getSimpleName).collect(Collectors.joining(", "));
    }

    private static String written(Executable e, String begin) {
        String thrown = simpleNames(e.getExceptionTypes());
        return Modifier.toString(e.getModifiers()) + " " + begin + "(" + simpleNames(e.getParameterTypes()) + ")"
                + (thrown.isEmpty() ? "" : " throws " + thrown);
    }

    private static Set<String> publicFace() throws IllegalAccessException {
        Set<String> face = new TreeSet<>();
        for (Method m : QuietLine.class.getDeclaredMethods()) {
            face.add(written(m, m.getReturnType().getSimpleName() + " " + m.getName()));
        }
        for (Constructor<?> c : QuietLine.class.getDeclaredConstructors()) {
            face.add(written(c, "QuietLine"));
        }
        for (Field f : QuietLine.class.getDeclaredFields()) {
            if (Modifier.isPublic(f.getModifiers())) {
                face.add(Modifier.toString(f.getModifiers()) + " " + f.getType().getSimpleName() + " " + f.getName()
                        + " = " + f.get(null));
            }
        }
        face.removeIf(member -> !member.startsWith("public "));
        return face;
    }

    private static void face() throws IllegalAccessException {
        section("The public face");
        Set<String> face = publicFace();
        passed("import java.util.NoSuchElementException;");
        sentence("public final class QuietLine {", () -> {
            due("the class", Modifier.toString(QuietLine.class.getModifiers()), "public final");
            due("in no package", QuietLine.class.getName(), "QuietLine");
        });
        int members = 0;
        String told = wordsOf("The public face");
        for (String member : told.substring(told.indexOf('{') + 1).split(";")) {
            if (member.strip().startsWith("public ")) {
                members++;
                sentence(member.strip(), () -> due("it is there", face.contains(withoutNames(member)), true));
            }
        }
        due("members", face.size(), members);
    }

    /** Each promise begins with its call once more. */
    private static void calledSo() throws IOException, IllegalAccessException {
        Set<String> face = publicFace();
        int spans = 0;
        for (String row : Files.readAllLines(Path.of("../shared/DOC.md"), StandardCharsets.UTF_8)) {
            if (row.startsWith("`") && row.contains("`:") && row.contains("(")) {
                spans++;
                String call = row.substring(1, row.indexOf("`:"));
                due("the promise's call " + call, face.contains("public " + withoutNames(call)), true);
            }
        }
        due("promises with a call", spans, sections("Promise "));
    }

    // ---- not promised

    private static void free() {
        section("Not promised");
        passed("How the state is held inside the object is free, as are the speed of each call, the text of toString and "
                + "the behaviour of equals and hashCode.");
        passed("Use of one object from several threads at once is not promised to be safe.");
        passed("Nothing is promised beyond the answers and state changes described above, and nothing about an object "
                + "after its 512th call.");
    }

    public static void main(String[] args) throws IOException, IllegalAccessException {
        begin(args);
        messages();
        noiseAndReader();
        thoughts();
        calls();
        face();
        calledSo();
        free();
        finish("face");
    }
}
