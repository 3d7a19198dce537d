import java.util.NoSuchElementException;
import java.util.Random;

/** Random runs of calls, each answer held against Model's; the seeds are fixed, so that all runs are the same each time. */
public final class RandomRunsTest {
    private static int wrong = 0;
    private static long compared = 0;
    private static final int[] KINDS = new int[7];

    private final Random random;
    private final QuietLine x = new QuietLine();
    private final Model m = new Model();
    private final StringBuilder trace = new StringBuilder();
    private boolean failed;

    private RandomRunsTest(long seed) {
        random = new Random(seed);
    }

    private void due(String call, int got, int want) {
        compared++;
        if (got != want && !failed) {
            failed = true;
            wrong++;
            System.out.println(trace);
            System.out.println(call + " answered " + got + ", due is " + want);
        }
    }

    private void told(String call) {
        trace.append(call).append('\n');
    }

    private int channelOf(int c, int what) {
        try {
            return x.channel(c, what);
        } catch (NoSuchElementException e) {
            return -77;
        }
    }

    private int modelChannel(int c, int what) {
        try {
            return m.channel(c, what);
        } catch (NoSuchElementException e) {
            return -77;
        }
    }

    private void feedBytes(int[] bytes) {
        for (int i = 0; i < bytes.length; i += 20) {
            int[] five = new int[5];
            for (int k = 0; k < 20; k++) {
                int v = i + k < bytes.length ? bytes[i + k] : 0;
                five[k / 4] = five[k / 4] << 8 | v;
            }
            told("feed " + java.util.Arrays.toString(five));
            due("feed", x.feed(five[0], five[1], five[2], five[3], five[4]), m.feed(five));
        }
        int n = Math.min(m.tape.size(), Math.max(0, m.tape.size() - (20 - bytes.length % 20) % 20));
        told("end " + n);
        due("end", x.end(n) ? 1 : 0, m.end(n));
    }

    private void clearTape() {
        told("end 0");
        due("end", x.end(0) ? 1 : 0, m.end(0));
    }

    private void feedText(String text) {
        int[] bytes = new int[text.length()];
        for (int i = 0; i < bytes.length; i++) {
            bytes[i] = text.charAt(i) & 255;
        }
        feedBytes(bytes);
    }

    private String blanks() {
        return " ".repeat(random.nextInt(4) == 0 ? random.nextInt(3) : 0);
    }

    private String piece(int sort) {
        String[] ways = {"plain", "pairs", "reduced"};
        String[] checks = {"none", "sum", "crc"};
        switch (sort) {
            case 0: return "way " + ways[random.nextInt(3)];
            case 1: return "longest " + (random.nextBoolean() ? 2 + random.nextInt(8) : 2 + random.nextInt(59));
            case 2: return "pairs " + (1 + random.nextInt(30));
            case 3: return "check " + checks[random.nextInt(3)];
            case 4: return "size " + (random.nextBoolean() ? 1 + random.nextInt(8) : 1 + random.nextInt(60));
            default: return "channel " + (1 + random.nextInt(8));
        }
    }

    private String goodText() {
        java.util.List<String> pieces = new java.util.ArrayList<>();
        for (int sort = 0; sort < 5; sort++) {
            if (random.nextInt(4) != 0) {
                pieces.add(piece(sort));
            }
        }
        for (int c = 1 + random.nextInt(4); c > 0; c--) {
            pieces.add(piece(5));
        }
        java.util.Collections.shuffle(pieces, random);
        StringBuilder b = new StringBuilder();
        for (int i = 0; i < pieces.size(); i++) {
            b.append(i == 0 ? "" : ";").append(blanks()).append(pieces.get(i)).append(blanks());
        }
        return b.toString();
    }

    private String badText() {
        StringBuilder b = new StringBuilder(random.nextBoolean() ? goodText() : goodText() + ";" + piece(random.nextInt(6)));
        String signs = " ;0159azwlpscy@Z\u00e9\t";
        for (int k = random.nextInt(3); k >= 0 && b.length() > 0; k--) {
            int at = random.nextInt(b.length());
            switch (random.nextInt(4)) {
                case 0: b.setCharAt(at, signs.charAt(random.nextInt(signs.length()))); break;
                case 1: b.insert(at, signs.charAt(random.nextInt(signs.length()))); break;
                case 2: b.deleteCharAt(at); break;
                default: b.setLength(at + 1); break;
            }
        }
        return b.toString();
    }

    private void newLine() {
        clearTape();
        if (random.nextInt(5) == 0) {
            feedText(badText());
            told("fault/line of a bad text");
            due("fault", x.fault(), m.fault());
            due("line", x.line(), m.line());
            clearTape();
        }
        feedText(goodText());
        told("line");
        due("fault", x.fault(), m.fault());
        due("line", x.line(), m.line());
    }

    private int[] someBytes(int most) {
        int[] bytes = new int[random.nextInt(4) == 0 ? random.nextInt(most + 1) : random.nextInt(Math.min(most, 30) + 1)];
        int zeros = 1 + random.nextInt(6);
        int high = random.nextInt(3) == 0 ? 10 : 256;
        for (int i = 0; i < bytes.length; i++) {
            bytes[i] = random.nextInt(zeros) == 0 ? 0 : random.nextInt(high);
        }
        return bytes;
    }

    private int near(int high) {
        return random.nextInt(12) == 0 ? random.nextInt(2 * high + 9) - 5 : random.nextInt(Math.max(1, high));
    }

    private void act() {
        int c = random.nextInt(15) == 0 ? random.nextInt(9) - 3 : random.nextInt(Math.max(1, m.world.chans.size()));
        int n;
        int v;
        int wire = m.world.wire.size();
        switch (random.nextInt(24)) {
            case 0: case 1: case 2: case 3:
                clearTape();
                feedBytes(someBytes(random.nextInt(20) == 0 ? 140 : 120));
                told("send " + c);
                due("send", x.send(c), m.send(c));
                break;
            case 4: case 5: case 6:
                n = random.nextInt(10) == 0 ? random.nextInt(70) - 4 : 1 + random.nextInt(8);
                told("put " + n);
                due("put", x.put(n), m.put(n));
                break;
            case 7: case 8: case 9: case 10:
                n = random.nextInt(12) == 0 ? random.nextInt(700) - 20 : 1 + random.nextInt(60);
                told("read " + n);
                due("read", x.read(n), m.read(n));
                break;
            case 11: case 12: case 13:
                told("take " + c);
                due("take", x.take(c), m.take(c));
                break;
            case 14: case 15:
                told("renew " + c);
                due("renew", x.renew(c), m.renew(c));
                break;
            case 16:
                n = near(wire);
                v = random.nextInt(10) == 0 ? random.nextInt(300) - 20 : 1 << random.nextInt(8);
                told("flip " + n + " " + v);
                due("flip", x.flip(n, v), m.flip(n, v));
                break;
            case 17:
                n = near(wire);
                told("lose " + n);
                due("lose", x.lose(n), m.lose(n));
                break;
            case 18:
                n = near(wire + 1);
                v = random.nextInt(3) == 0 ? 0 : random.nextInt(280) - 5;
                told("insert " + n + " " + v);
                due("insert", x.insert(n, v), m.insert(n, v));
                break;
            case 19:
                n = random.nextInt(8) == 0 ? random.nextInt(60) - 10 : 1 + random.nextInt(3);
                long seed = random.nextLong();
                told("noise " + n + " " + seed);
                due("noise", x.noise(n, seed), m.noise(n, seed));
                break;
            case 20:
                told("undo");
                due("undo", x.undo(), m.undo());
                break;
            case 21:
                told("image");
                due("image", x.image(), m.image());
                break;
            case 22:
                if (random.nextInt(3) == 0) {
                    told("back");
                    due("back", x.back(), m.back());
                }
                break;
            default:
                byHand();
                break;
        }
    }

    private void byHand() {
        clearTape();
        int way = random.nextInt(12) == 0 ? random.nextInt(9) - 4 : random.nextInt(3);
        feedBytes(someBytes(random.nextInt(3) == 0 ? 300 : 60));
        due("shortest", x.shortest(), m.shortest());
        told("stuff " + way);
        due("stuff", x.stuff(way), m.stuff(way));
        compareBox();
        int[] again = m.box.stream().mapToInt(Integer::intValue).limit(300).toArray();
        if (again.length > 0 && random.nextBoolean()) {
            again[random.nextInt(again.length)] = random.nextInt(2) == 0 ? random.nextInt(256) : random.nextInt(30);
        }
        clearTape();
        feedBytes(again);
        told("unstuff " + way);
        due("unstuff", x.unstuff(way), m.unstuff(way));
        compareBox();
    }

    private void compareBox() {
        due("count(2)", x.count(2), m.count(2));
        for (int k = -1; k <= m.box.size(); k++) {
            due("box(" + k + ")", x.box(k), m.box(k));
        }
    }

    private void compareState() {
        for (int what = -1; what <= 12; what++) {
            due("rule(" + what + ")", x.rule(what), m.rule(what));
            due("status(" + what + ")", x.status(what), m.status(what));
            due("most(" + what + ")", x.most(what), m.most(what));
            due("count(" + what + ")", x.count(what), m.count(what));
            for (int c = -1; c <= 4; c++) {
                due("channel(" + c + ", " + what + ")", channelOf(c, what), modelChannel(c, what));
            }
        }
        for (int i = -1; i <= m.world.wire.size(); i++) {
            due("byteAt(" + i + ")", x.byteAt(i), m.byteAt(i));
        }
        for (int i = -1; i <= m.hand.size(); i++) {
            due("hand(" + i + ")", x.hand(i), m.hand(i));
        }
        for (int i = -1; i <= 41; i++) {
            for (int what = -1; what <= 5; what++) {
                due("event(" + i + ", " + what + ")", x.event(i, what), m.event(i, what));
            }
        }
    }

    private void compareQuestions() {
        int frames = m.rule(7) == Model.HIDDEN ? 0 : m.rule(7);
        for (int k = -1; k <= frames; k++) {
            for (int what = -1; what <= 5; what++) {
                due("frame(" + k + ", " + what + ")", x.frame(k, what), m.frame(k, what));
            }
        }
        for (int what = -1; what <= 5; what++) {
            due("flushed(" + what + ")", x.flushed(what), m.flushed(what));
            for (int c = -1; c <= 4; c++) {
                due("share(" + c + ", " + what + ")", x.share(c, what), m.share(c, what));
            }
            int n = random.nextInt(130) - 4;
            due("cost(" + n + ", " + what + ")", x.cost(n, what), m.cost(n, what));
            n = random.nextInt(312) - 5;
            due("bound(" + n + ")", x.bound(n), m.bound(n));
        }
        for (int k = 0; k < 6; k++) {
            int i = near(m.world.wire.size());
            int v = random.nextInt(10) == 0 ? random.nextInt(300) - 20 : random.nextInt(256);
            int byItself = m.byteAt(i);
            if (byItself > 0 && random.nextInt(4) == 0) {
                v = byItself;
            }
            due("harm(" + i + ", " + v + ")", x.harm(i, v), m.harm(i, v));
        }
    }

    private void compareBlind() {
        int frames = Math.max(0, m.rule(7));
        int k = random.nextInt(frames + 1) - random.nextInt(2);
        due("blind(" + k + ")", x.blind(k), m.blind(k));
    }

    private void run(int acts) {
        if (random.nextInt(10) == 0) {
            for (int k = 0; k < 20; k++) {
                act();
            }
        }
        compareState();
        newLine();
        for (int k = 0; k < acts && !failed; k++) {
            act();
            if (random.nextInt(4) == 0) {
                compareState();
            }
            if (random.nextInt(8) == 0) {
                compareQuestions();
            }
            if (random.nextInt(12) == 0) {
                compareBlind();
            }
            if (random.nextInt(150) == 0) {
                newLine();
            }
        }
        for (int[] event : m.world.events) {
            KINDS[event[0]]++;
        }
    }

    /** Little noise and much reading ahead of taking, so that CHANNELS fill and messages crowd. */
    private void crowdedRun() {
        newLine();
        for (int k = 0; k < 150 && !failed; k++) {
            int c = random.nextInt(m.world.chans.size());
            clearTape();
            feedBytes(someBytes(random.nextInt(6) == 0 ? 120 : 12));
            told("send " + c);
            due("send", x.send(c), m.send(c));
            told("renew " + c);
            due("renew", x.renew(c), m.renew(c));
            if (random.nextInt(3) == 0) {
                told("put 60");
                due("put", x.put(60), m.put(60));
            }
            if (random.nextInt(9) == 0) {
                told("read 600");
                due("read", x.read(600), m.read(600));
            }
            if (random.nextInt(30) == 0) {
                told("noise 20");
                due("noise", x.noise(20, k), m.noise(20, k));
            }
            if (random.nextInt(10) == 0) {
                compareState();
                compareQuestions();
            }
        }
        for (int[] event : m.world.events) {
            KINDS[event[0]]++;
        }
    }

    private void textRun() {
        for (int k = 0; k < 40 && !failed; k++) {
            clearTape();
            String text = random.nextInt(4) == 0 ? goodText() : badText();
            told(text);
            feedText(text);
            due("fault", x.fault(), m.fault());
            due("line", x.line(), m.line());
            for (int what = 0; what <= 11; what++) {
                due("rule(" + what + ")", x.rule(what), m.rule(what));
            }
        }
    }

    public static void main(String[] args) {
        int runs = args.length > 0 ? Integer.parseInt(args[0]) : 400;
        long base = args.length > 1 ? Long.parseLong(args[1]) : 0;
        for (int seed = 0; seed < runs && wrong < 3; seed++) {
            new RandomRunsTest(base + 3L * seed).run(150);
            new RandomRunsTest(base + 3L * seed + 1).crowdedRun();
            new RandomRunsTest(base + 3L * seed + 2).textRun();
        }
        for (int kind = 0; kind < KINDS.length; kind++) {
            if (runs >= 100 && KINDS[kind] == 0) {
                wrong++;
                System.out.println("no run had an event " + kind);
            }
        }
        System.out.println("random runs: " + compared + " answers compared, events of each kind "
                + java.util.Arrays.toString(KINDS));
        if (wrong != 0) {
            System.exit(1);
        }
    }
}
