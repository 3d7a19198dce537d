import java.util.ArrayDeque;
import java.util.ArrayList;
import java.util.Arrays;
import java.util.Deque;
import java.util.List;
import java.util.NoSuchElementException;
import java.util.regex.Matcher;
import java.util.regex.Pattern;

/**
 * The document once more, written in another way than the class: lists that are copied whole, a text that is cut by
 * regular expressions, BLIND by trying every flip. RandomRunsTest holds both against each other.
 */
final class Model {
    static final int NONE = -1;
    static final int HIDDEN = -1000000;

    static final class Chan {
        int told;
        int credits;
        List<List<Integer>> waits = new ArrayList<>();
        int gone;
        int next;
        int expected;
        int lost;
        int torn;
        List<List<Integer>> there = new ArrayList<>();
        List<Integer> thereFrames = new ArrayList<>();
        List<Integer> sofar; // null: no message is begun
        int sofarFrames;
        int taken;

        Chan copy() {
            Chan c = new Chan();
            c.told = told;
            c.credits = credits;
            c.waits = new ArrayList<>(waits);
            c.gone = gone;
            c.next = next;
            c.expected = expected;
            c.lost = lost;
            c.torn = torn;
            c.there = new ArrayList<>(there);
            c.thereFrames = new ArrayList<>(thereFrames);
            c.sofar = sofar == null ? null : new ArrayList<>(sofar);
            c.sofarFrames = sofarFrames;
            c.taken = taken;
            return c;
        }
    }

    static final class World {
        List<Chan> chans = new ArrayList<>();
        List<Integer> wire = new ArrayList<>();
        List<Integer> ahead = new ArrayList<>(); // all bytes behind the latest MARK, also those above 200
        List<int[]> events = new ArrayList<>(); // all that ever came
        int picked = NONE;

        World copy() {
            World w = new World();
            for (Chan c : chans) {
                w.chans.add(c.copy());
            }
            w.wire = new ArrayList<>(wire);
            w.ahead = new ArrayList<>(ahead);
            w.events = new ArrayList<>(events);
            w.picked = picked;
            return w;
        }
    }

    List<Integer> tape = new ArrayList<>();
    List<Integer> box = new ArrayList<>();
    List<Integer> hand = new ArrayList<>();
    boolean has;
    int way;
    int longest = 20;
    int pairs = 10;
    int check = 1;
    int size = 16;
    World world = new World();
    World image;
    Deque<World> before = new ArrayDeque<>();
    int[] refused = new int[4];

    // ---- text

    private static final Pattern PART = Pattern.compile("[a-z]+|[0-9]+|[^ ]", Pattern.DOTALL);

    /** Parts with their begins; at the end "" at the length. */
    private static List<Object[]> parts(String text) {
        List<Object[]> list = new ArrayList<>();
        Matcher m = PART.matcher(text);
        while (m.find()) {
            list.add(new Object[] {m.group(), m.start()});
        }
        for (int i = 0; i < 3; i++) {
            list.add(new Object[] {"", text.length()});
        }
        return list;
    }

    private String text() {
        StringBuilder b = new StringBuilder();
        for (int v : tape) {
            b.append((char) v);
        }
        return b.toString();
    }

    /** {FAULT} or {NONE, way, longest, pairs, check, size, credits ..}. */
    private int[] parse() {
        List<Object[]> parts = parts(text());
        int[] told = {NONE, 0, 20, 10, 1, 16};
        List<String> sorts = List.of("way", "longest", "pairs", "check", "size");
        int[] low = {0, 2, 1, 0, 1};
        int[] high = {0, 60, 30, 0, 60};
        boolean[] seen = new boolean[5];
        List<Integer> credits = new ArrayList<>();
        int p = 0;
        while (true) {
            String word = (String) parts.get(p)[0];
            int at = (Integer) parts.get(p)[1];
            String value = (String) parts.get(p + 1)[0];
            int valueAt = (Integer) parts.get(p + 1)[1];
            int sort = sorts.indexOf(word);
            if (word.equals("channel")) {
                if (credits.size() == 4) {
                    return new int[] {at};
                }
                int v = inside(value, 1, 8);
                if (v < 0) {
                    return new int[] {valueAt};
                }
                credits.add(v);
            } else if (sort < 0 || seen[sort]) {
                return new int[] {at};
            } else {
                seen[sort] = true;
                int v;
                if (sort == 0) {
                    v = List.of("plain", "pairs", "reduced").indexOf(value);
                } else if (sort == 3) {
                    v = List.of("none", "sum", "crc").indexOf(value);
                } else {
                    v = inside(value, low[sort], high[sort]);
                }
                if (v < 0) {
                    return new int[] {valueAt};
                }
                told[sort + 1] = v;
            }
            String between = (String) parts.get(p + 2)[0];
            if (between.isEmpty() && !credits.isEmpty()) {
                break;
            }
            if (!between.equals(";")) {
                return new int[] {(Integer) parts.get(p + 2)[1]};
            }
            p += 3;
        }
        int[] all = Arrays.copyOf(told, 6 + credits.size());
        for (int i = 0; i < credits.size(); i++) {
            all[6 + i] = credits.get(i);
        }
        return all;
    }

    private static int inside(String value, int low, int high) {
        if (!value.matches("[0-9]{1,2}")) {
            return -1;
        }
        int v = Integer.parseInt(value);
        return v >= low && v <= high ? v : -1;
    }

    // ---- stuffing

    static List<Integer> stuffed(List<Integer> bytes, int way, int longest, int pairs) {
        List<List<Integer>> blocks = new ArrayList<>();
        List<Integer> rest = bytes;
        while (true) {
            int run = 0;
            while (run < rest.size() && rest.get(run) != 0 && run < longest) {
                run++;
            }
            List<Integer> block = new ArrayList<>();
            block.add(run + 1);
            block.addAll(rest.subList(0, run));
            List<Integer> behind = rest.subList(run, rest.size());
            blocks.add(block);
            if (run == longest) {
                rest = behind;
                if (rest.isEmpty()) {
                    break;
                }
            } else if (way == 1 && run < pairs && behind.size() >= 2 && behind.get(0) == 0 && behind.get(1) == 0) {
                block.set(0, longest + 2 + run);
                rest = behind.subList(2, behind.size());
                if (rest.isEmpty()) {
                    break;
                }
            } else if (behind.isEmpty()) {
                break;
            } else {
                rest = behind.subList(1, behind.size());
            }
        }
        List<Integer> last = blocks.get(blocks.size() - 1);
        if (way == 2 && last.size() > 1 && last.get(last.size() - 1) >= last.get(0)) {
            last.set(0, last.remove(last.size() - 1));
        }
        List<Integer> all = new ArrayList<>();
        for (List<Integer> block : blocks) {
            all.addAll(block);
        }
        return all;
    }

    /** The bytes; or, WRONG: a single number, -2 - place. */
    static List<Integer> unstuffed(List<Integer> s, int way, int longest, int pairs) {
        List<Integer> out = new ArrayList<>();
        if (s.isEmpty()) {
            return List.of(-2);
        }
        int p = 0;
        while (p < s.size()) {
            int c = s.get(p);
            int left = s.size() - p - 1;
            int need;
            int kind; // 0: a 0 if anything is left, 1: none, 2: two, 3: c itself
            if (c == 0) {
                return List.of(-2 - p);
            } else if (way == 2 && left < c - 1) {
                need = left;
                kind = 3;
            } else if (c <= longest) {
                need = c - 1;
                kind = 0;
            } else if (c == longest + 1) {
                need = longest;
                kind = 1;
            } else if (way == 1 && c >= longest + 2 && c <= longest + 1 + pairs) {
                need = c - longest - 2;
                kind = 2;
            } else {
                return List.of(-2 - p);
            }
            if (need > left) {
                return List.of(-2 - p);
            }
            for (int q = p + 1; q <= p + need; q++) {
                if (s.get(q) == 0) {
                    return List.of(-2 - q);
                }
                out.add(s.get(q));
            }
            p += need + 1;
            if (kind == 3) {
                out.add(c);
            } else if (kind == 2) {
                out.add(0);
                out.add(0);
            } else if (kind == 0 && p < s.size()) {
                out.add(0);
            }
        }
        return out;
    }

    private static boolean wrong(List<Integer> out) {
        return out.size() == 1 && out.get(0) < 0;
    }

    private int checkOf(List<Integer> bytes) {
        if (check == 1) {
            return bytes.stream().mapToInt(Integer::intValue).sum() % 256;
        }
        int register = 0;
        for (int v : bytes) {
            for (int bit = 7; bit >= 0; bit--) {
                int top = (register >> 7 & 1) ^ (v >> bit & 1);
                register = register << 1 & 255;
                if (top == 1) {
                    register ^= 0b111;
                }
            }
        }
        return register;
    }

    /** {kind} or {kind, head, bytes of the PART}, and the PART behind if it's whole. */
    private List<Integer> judged(List<Integer> piece) {
        if (piece.size() > 200) {
            return List.of(2);
        }
        List<Integer> out = unstuffed(piece, way, longest, pairs);
        if (wrong(out)) {
            return List.of(2);
        }
        int least = check == 0 ? 1 : 2;
        if (out.size() < least) {
            return List.of(3);
        }
        List<Integer> body = check == 0 ? out : out.subList(0, out.size() - 1);
        if (check != 0 && checkOf(body) != out.get(out.size() - 1)) {
            return List.of(3);
        }
        int head = body.get(0);
        int kind = head / 64 >= world.chans.size() || body.size() - 1 > size ? 4 : 0;
        List<Integer> answer = new ArrayList<>(List.of(kind, head, body.size() - 1));
        answer.addAll(body.subList(1, body.size()));
        return answer;
    }

    // ---- the world goes on

    private static int pick(World w) {
        int best = NONE;
        int n = w.chans.size();
        for (int step = 0; step < n; step++) {
            int c = ((w.picked == NONE ? n - 1 : w.picked) + 1 + step) % n;
            Chan chan = w.chans.get(c);
            if (!chan.waits.isEmpty() && chan.credits > 0
                    && (best == NONE || chan.credits > w.chans.get(best).credits)) {
                best = c;
            }
        }
        return best;
    }

    private int putInto(World w, int n) {
        int done = 0;
        while (done < n) {
            int c = pick(w);
            if (c == NONE) {
                break;
            }
            Chan chan = w.chans.get(c);
            List<Integer> message = chan.waits.get(0);
            int to = Math.min(message.size(), chan.gone + size);
            List<Integer> frame = new ArrayList<>();
            frame.add(64 * c + (chan.gone == 0 ? 32 : 0) + (to == message.size() ? 16 : 0) + chan.next);
            frame.addAll(message.subList(chan.gone, to));
            if (check != 0) {
                frame.add(checkOf(frame));
            }
            List<Integer> onWire = stuffed(frame, way, longest, pairs);
            if (w.wire.size() + onWire.size() + 1 > 600) {
                break;
            }
            w.wire.addAll(onWire);
            w.wire.add(0);
            chan.credits--;
            chan.next = (chan.next + 1) % 16;
            chan.gone = to;
            if (to == message.size()) {
                chan.waits.remove(0);
                chan.gone = 0;
            }
            w.picked = c;
            done++;
        }
        return done;
    }

    private int readFrom(World w, int n) {
        int came = 0;
        for (int k = 0; k < n && !w.wire.isEmpty(); k++) {
            int v = w.wire.remove(0);
            if (v != 0) {
                w.ahead.add(v);
            } else if (!w.ahead.isEmpty()) {
                List<Integer> j = judged(w.ahead);
                int kind = j.get(0);
                int bytes = Math.min(200, w.ahead.size());
                if (kind == 0) {
                    kind = accept(w.chans.get(j.get(1) / 64), j.get(1), j.subList(3, j.size()));
                }
                boolean readable = j.size() > 1;
                w.events.add(new int[] {kind, readable ? j.get(1) : NONE, bytes, readable ? j.get(2) : NONE,
                    readable ? j.get(1) / 64 : NONE});
                w.ahead.clear();
                came++;
            }
        }
        return came;
    }

    private static void tear(Chan c) {
        if (c.sofar != null) {
            c.torn++;
        }
        c.sofar = null;
        c.sofarFrames = 0;
    }

    private static int accept(Chan c, int head, List<Integer> part) {
        int number = head % 16;
        boolean first = head / 32 % 2 == 1;
        boolean last = head / 16 % 2 == 1;
        if (number != c.expected) {
            c.lost += (number + 16 - c.expected) % 16;
            tear(c);
        }
        c.expected = (number + 1) % 16;
        if (first) {
            tear(c);
            c.sofar = new ArrayList<>();
        } else if (c.sofar == null) {
            return 5;
        } else if (c.sofar.size() + part.size() > 120) {
            tear(c);
            return 5;
        }
        c.sofar.addAll(part);
        c.sofarFrames++;
        if (!last) {
            return 0;
        }
        if (c.there.size() == 8) {
            tear(c);
            return 6;
        }
        c.there.add(c.sofar);
        c.thereFrames.add(c.sofarFrames);
        c.sofar = null;
        c.sofarFrames = 0;
        return 1;
    }

    /** FRAMES on the LINE: {begin, length}. */
    private List<int[]> frames() {
        List<int[]> list = new ArrayList<>();
        int start = 0;
        for (int i = 0; i < world.wire.size(); i++) {
            if (world.wire.get(i) == 0) {
                if (i > start) {
                    list.add(new int[] {start, i - start});
                }
                start = i + 1;
            }
        }
        return list;
    }

    private List<Integer> piece(int[] frame) {
        return world.wire.subList(frame[0], frame[0] + frame[1]);
    }

    private void act(World was) {
        before.addLast(was);
        if (before.size() > 12) {
            before.removeFirst();
        }
    }

    private int refuse(int why) {
        refused[why]++;
        return NONE;
    }

    private static int get(List<Integer> list, int i) {
        return i >= 0 && i < list.size() ? list.get(i) : NONE;
    }

    private boolean isChan(int c) {
        return c >= 0 && c < world.chans.size();
    }

    // ---- the face

    int feed(int... five) {
        if (tape.size() > 280) {
            return NONE;
        }
        for (int number : five) {
            for (byte b : java.nio.ByteBuffer.allocate(4).putInt(number).array()) {
                tape.add(b & 255);
            }
        }
        return tape.size();
    }

    int end(int n) {
        if (n < 0 || n > tape.size()) {
            return 0;
        }
        tape = new ArrayList<>(tape.subList(0, n));
        return 1;
    }

    int fault() {
        return parse()[0];
    }

    int line() {
        int[] told = parse();
        if (told[0] != NONE) {
            return NONE;
        }
        way = told[1];
        longest = told[2];
        pairs = told[3];
        check = told[4];
        size = told[5];
        world = new World();
        for (int i = 6; i < told.length; i++) {
            Chan c = new Chan();
            c.told = told[i];
            c.credits = told[i];
            world.chans.add(c);
        }
        has = true;
        tape.clear();
        hand.clear();
        before.clear();
        image = null;
        return world.chans.size();
    }

    int rule(int what) {
        if (!has || what < 0 || what > 11) {
            return HIDDEN;
        }
        int[] all = {way, longest, pairs, check, size, world.chans.size(), world.wire.size(), frames().size(),
            Math.min(200, world.ahead.size()), world.events.size(), world.picked,
            widest(1 + size + (check == 0 ? 0 : 1)) + 1};
        return all[what];
    }

    int send(int c) {
        if (!has) {
            return refuse(0);
        }
        if (!isChan(c)) {
            return refuse(1);
        }
        if (tape.size() > 120) {
            return refuse(2);
        }
        if (world.chans.get(c).waits.size() == 8) {
            return refuse(3);
        }
        act(world.copy());
        world.chans.get(c).waits.add(tape);
        tape = new ArrayList<>();
        return world.chans.get(c).waits.size();
    }

    int put(int n) {
        if (!has) {
            return refuse(0);
        }
        if (n < 1 || n > 60) {
            return refuse(2);
        }
        World was = world.copy();
        int done = putInto(world, n);
        if (done > 0) {
            act(was);
        }
        return done;
    }

    int byteAt(int i) {
        return get(world.wire, i);
    }

    int flip(int i, int v) {
        if (!has) {
            return refuse(0);
        }
        if (byteAt(i) == NONE) {
            return refuse(1);
        }
        if (v < 1 || v > 255) {
            return refuse(2);
        }
        act(world.copy());
        world.wire.set(i, world.wire.get(i) ^ v);
        return world.wire.get(i);
    }

    int lose(int i) {
        if (!has) {
            return refuse(0);
        }
        if (byteAt(i) == NONE) {
            return refuse(1);
        }
        act(world.copy());
        return world.wire.remove(i);
    }

    int insert(int i, int v) {
        if (!has) {
            return refuse(0);
        }
        if (i < 0 || i > world.wire.size()) {
            return refuse(1);
        }
        if (v < 0 || v > 255) {
            return refuse(2);
        }
        if (world.wire.size() == 600) {
            return refuse(3);
        }
        act(world.copy());
        world.wire.add(i, v);
        return world.wire.size();
    }

    private long seed;

    private int draw(int m) {
        seed = seed * 6364136223846793005L + 1442695040888963407L;
        String bits = String.format("%64s", Long.toBinaryString(seed)).replace(' ', '0');
        return (int) (Long.parseLong(bits.substring(0, 31), 2) % m);
    }

    int noise(int n, long first) {
        if (!has) {
            return refuse(0);
        }
        if (n < 1 || n > 40) {
            return refuse(2);
        }
        World was = world.copy();
        seed = first;
        int done = 0;
        for (int k = 0; k < n; k++) {
            int sort = draw(3);
            int many = world.wire.size();
            if (sort == 2 ? many == 600 : many == 0) {
                continue;
            }
            int where = draw(sort == 2 ? many + 1 : many);
            if (sort == 0) {
                world.wire.set(where, world.wire.get(where) ^ (draw(255) + 1));
            } else if (sort == 1) {
                world.wire.remove(where);
            } else {
                world.wire.add(where, draw(255) + 1);
            }
            done++;
        }
        if (done > 0) {
            act(was);
        }
        return done;
    }

    int read(int n) {
        if (!has) {
            return refuse(0);
        }
        if (n < 1 || n > 600) {
            return refuse(2);
        }
        if (!world.wire.isEmpty()) {
            act(world.copy());
        }
        return readFrom(world, n);
    }

    int take(int c) {
        if (!has) {
            return refuse(0);
        }
        if (!isChan(c) || world.chans.get(c).there.isEmpty()) {
            return refuse(1);
        }
        act(world.copy());
        Chan chan = world.chans.get(c);
        hand = chan.there.remove(0);
        chan.credits = Math.min(chan.told, chan.credits + chan.thereFrames.remove(0));
        chan.taken++;
        return hand.size();
    }

    int hand(int k) {
        return get(hand, k);
    }

    int renew(int c) {
        if (!has) {
            return refuse(0);
        }
        if (!isChan(c)) {
            return refuse(1);
        }
        Chan chan = world.chans.get(c);
        if (chan.credits == chan.told) {
            return refuse(2);
        }
        act(world.copy());
        chan.credits = chan.told;
        return chan.credits;
    }

    int channel(int c, int what) {
        if (!isChan(c) || what < 0 || what > 11) {
            throw new NoSuchElementException();
        }
        Chan x = world.chans.get(c);
        int[] all = {x.credits, x.told, x.waits.size(), x.gone, x.next, x.expected, x.lost, x.torn, x.there.size(),
            x.sofarFrames, x.sofar == null ? 0 : x.sofar.size(), x.taken};
        return all[what];
    }

    int event(int i, int what) {
        if (i < 0 || i >= Math.min(40, world.events.size()) || what < 0 || what > 4) {
            return NONE;
        }
        return world.events.get(world.events.size() - 1 - i)[what];
    }

    int stuff(int w) {
        if (w < 0 || w > 2) {
            return NONE;
        }
        box = stuffed(tape, w, longest, pairs);
        tape = new ArrayList<>();
        return box.size();
    }

    int unstuff(int w) {
        if (w < 0 || w > 2) {
            return NONE;
        }
        List<Integer> out = unstuffed(tape, w, longest, pairs);
        if (wrong(out)) {
            return out.get(0);
        }
        box = out;
        tape = new ArrayList<>();
        return box.size();
    }

    int box(int k) {
        return get(box, k);
    }

    int shortest() {
        int[] lengths = new int[3];
        for (int w = 0; w < 3; w++) {
            lengths[w] = stuffed(tape, w, longest, pairs).size();
        }
        int least = Arrays.stream(lengths).min().getAsInt();
        return lengths[0] == least ? 0 : lengths[1] == least ? 1 : 2;
    }

    private int widest(int n) {
        return n + Math.max(1, (int) Math.ceil((double) n / longest));
    }

    int bound(int n) {
        return n < 0 || n > 300 ? NONE : widest(n);
    }

    int frame(int k, int what) {
        List<int[]> list = frames();
        if (k < 0 || k >= list.size() || what < 0 || what > 4) {
            return NONE;
        }
        List<Integer> j = judged(piece(list.get(k)));
        boolean readable = j.size() > 1;
        int[] all = {list.get(k)[0], list.get(k)[1], j.get(0), readable ? j.get(1) / 64 : NONE,
            readable ? j.get(1) % 16 : NONE};
        return all[what];
    }

    private static int there(World w) {
        return w.chans.stream().mapToInt(c -> c.there.size()).sum();
    }

    int harm(int i, int v) {
        if (byteAt(i) == NONE || v < 1 || v > 255) {
            return HIDDEN;
        }
        World with = world.copy();
        with.wire.set(i, with.wire.get(i) ^ v);
        World without = world.copy();
        readFrom(with, 600);
        readFrom(without, 600);
        return there(without) - there(with);
    }

    int blind(int k) {
        List<int[]> list = frames();
        if (k < 0 || k >= list.size()) {
            return NONE;
        }
        List<Integer> piece = new ArrayList<>(piece(list.get(k)));
        if (judged(piece).get(0) != 0) {
            return -2;
        }
        int blind = 0;
        for (int i = 0; i < piece.size(); i++) {
            int was = piece.get(i);
            for (int v = 1; v <= 255; v++) {
                if ((was ^ v) != 0) {
                    piece.set(i, was ^ v);
                    blind += judged(piece).get(0) == 0 ? 1 : 0;
                }
            }
            piece.set(i, was);
        }
        return blind;
    }

    int cost(int n, int what) {
        if (!has || n < 0 || n > 120 || what < 0 || what > 1) {
            return NONE;
        }
        int whole = n / size;
        int rest = n % size;
        int extra = 1 + (check == 0 ? 0 : 1);
        boolean oneMore = rest > 0 || n == 0;
        if (what == 0) {
            return whole + (oneMore ? 1 : 0);
        }
        return whole * (widest(size + extra) + 1) + (oneMore ? widest(rest + extra) + 1 : 0);
    }

    int share(int c, int what) {
        if (!isChan(c) || what < 0 || what > 3) {
            return NONE;
        }
        int[] all = new int[4];
        int last = NONE;
        for (int[] f : frames()) {
            List<Integer> j = judged(piece(f));
            if (j.get(0) == 0 && j.get(1) / 64 == c) {
                all[0]++;
                all[1] += f[1] + 1;
                all[3] += j.get(2);
                int number = j.get(1) % 16;
                if (last != NONE) {
                    all[2] += (number + 32 - last - 1) % 16;
                }
                last = number;
            }
        }
        return all[what];
    }

    int flushed(int what) {
        if (!has || what < 0 || what > 4) {
            return NONE;
        }
        World w = world.copy();
        int came = 0;
        while (true) {
            int put = putInto(w, 1000);
            if (put == 0 && w.wire.isEmpty()) {
                break;
            }
            came += readFrom(w, 1000);
        }
        int[] all = {there(w), w.chans.stream().mapToInt(c -> c.lost).sum(),
            w.chans.stream().mapToInt(c -> c.torn).sum(), w.chans.stream().mapToInt(c -> c.waits.size()).sum(), came};
        return all[what];
    }

    int undo() {
        if (before.isEmpty()) {
            return NONE;
        }
        world = before.removeLast();
        return before.size();
    }

    int image() {
        if (!has) {
            return NONE;
        }
        image = world.copy();
        return world.wire.size();
    }

    int back() {
        if (image == null) {
            return NONE;
        }
        world = image.copy();
        before.clear();
        return world.wire.size();
    }

    int status(int what) {
        return what < 0 || what > 3 ? NONE : refused[what];
    }

    int most(int what) {
        if (!has || what < 0 || what > 5) {
            return HIDDEN;
        }
        if (what == 0) {
            int best = 0;
            for (int c = 0; c < world.chans.size(); c++) {
                if (world.chans.get(c).lost > world.chans.get(best).lost) {
                    best = c;
                }
            }
            return best;
        }
        if (what == 1) {
            return pick(world);
        }
        if (what == 2) {
            int many = 0;
            for (int i = 0; i < 40; i++) {
                many += event(i, 0) == 2 || event(i, 0) == 3 ? 1 : 0;
            }
            return many;
        }
        if (what == 3) {
            return frames().stream().mapToInt(f -> f[1]).max().orElse(0);
        }
        if (what == 4) {
            return world.chans.stream().mapToInt(c -> c.waits.stream().mapToInt(List::size).sum() - c.gone).sum();
        }
        return world.wire.stream().mapToInt(Integer::intValue).max().orElse(NONE);
    }

    int count(int what) {
        switch (what) {
            case 0: return tape.size();
            case 1: return before.size();
            case 2: return box.size();
            case 3: return hand.size();
            default: return NONE;
        }
    }
}
