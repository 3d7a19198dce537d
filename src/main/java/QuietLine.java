import java.util.NoSuchElementException;

/**
 * A noisy line without zeros: messages of channels in frames, stuffed so that 0 is the mark alone.
 * The words in capital letters are the document's.
 */
public final class QuietLine {
    public static final int NONE = -1;
    public static final int HIDDEN = -1000000;

    private static final int TAPE_MOST = 300;
    /** Way pairs makes two bytes of one CODE, so a full TAPE can become twice as long. */
    private static final int BOX_MOST = 2 * TAPE_MOST;
    private static final int LINE_MOST = 600;
    private static final int READER_MOST = 200;
    private static final int MESSAGE_MOST = 120;
    private static final int MESSAGES_MOST = 8;
    private static final int PORTS_MOST = 4;
    private static final int PUT_MOST = 60;
    private static final int NOISE_MOST = 40;
    private static final int EVENTS_MOST = 40;
    private static final int EVENT_CELLS = 5;
    private static final int ACTS_MOST = 12;

    private static final int PLAIN = 0;
    private static final int PAIRS = 1;
    private static final int REDUCED = 2;

    private static final int CHECK_NONE = 0;
    private static final int CHECK_SUM = 1;
    private static final int CHECK_CRC = 2;

    private static final int HEAD_FIRST = 32;
    private static final int HEAD_LAST = 16;

    private static final int SOUND = 0;
    private static final int ADDED = 0;
    private static final int COMPLETE = 1;
    private static final int BROKEN = 2;
    private static final int BAD = 3;
    private static final int STRANGE = 4;
    private static final int SKIPPED = 5;
    private static final int CROWDED = 6;

    private static final int NO_LINE = 0;
    private static final int NO_SUCH = 1;
    private static final int OUT_OF_BOUNDS = 2;
    private static final int FULL = 3;

    private final Tape tape;
    private final Row inBox;
    private final Row inHand;
    private final Framing framing;
    private final Walk walk;
    private final Draws draws;
    private final Past past;
    private final State spare;
    private final State kept;
    private final int[] refused;
    private State now;
    private boolean hasLine;
    private boolean hasImage;

    public QuietLine() {
        tape = new Tape();
        inBox = new Row(BOX_MOST);
        inHand = new Row(MESSAGE_MOST);
        framing = new Framing();
        walk = new Walk();
        draws = new Draws();
        past = new Past();
        spare = new State();
        kept = new State();
        refused = new int[4];
        now = new State();
    }

    // ---- the TAPE and the LINE as a text

    public int feed(int a, int b, int c, int d, int e) {
        if (tape.bytes.size + 20 > TAPE_MOST) {
            return NONE;
        }
        addFour(a);
        addFour(b);
        addFour(c);
        addFour(d);
        addFour(e);
        return tape.bytes.size;
    }

    private void addFour(int number) {
        for (int shift = 24; shift >= 0; shift -= 8) {
            tape.bytes.add((number >>> shift) & 255);
        }
    }

    public boolean end(int n) {
        if (n < 0 || n > tape.bytes.size) {
            return false;
        }
        tape.bytes.size = n;
        return true;
    }

    public int fault() {
        return tape.firstFault();
    }

    public int line() {
        if (tape.firstFault() != NONE) {
            return NONE;
        }
        framing.rules.copyFrom(tape.told);
        tape.bytes.clear();
        inHand.clear();
        past.forget();
        now.reset(framing.rules);
        hasLine = true;
        hasImage = false;
        return framing.rules.ports;
    }

    public int rule(int what) {
        if (!hasLine) {
            return HIDDEN;
        }
        Rules rules = framing.rules;
        switch (what) {
            case 0: return rules.way;
            case 1: return rules.stuffing.longest;
            case 2: return rules.stuffing.pairs;
            case 3: return rules.check;
            case 4: return rules.size;
            case 5: return rules.ports;
            case 6: return now.wire.size;
            case 7: return framesThere();
            case 8: return now.reader.size;
            case 9: return now.came;
            case 10: return now.picked;
            case 11: return rules.widestFrame(rules.size);
            default: return HIDDEN;
        }
    }

    private int framesThere() {
        int many = 0;
        walk.begin();
        for (int k = 0; k < LINE_MOST && walk.step(now.wire); k++) {
            many++;
        }
        return many;
    }

    // ---- messages onto the LINE

    public int send(int channel) {
        if (!hasLine) {
            return refuse(NO_LINE);
        }
        Port port = now.portAt(channel);
        if (port == null) {
            return refuse(NO_SUCH);
        }
        if (tape.bytes.size > MESSAGE_MOST) {
            return refuse(OUT_OF_BOUNDS);
        }
        if (port.waits.many() >= MESSAGES_MOST) {
            return refuse(FULL);
        }
        past.stage(now);
        port.waits.push(tape.bytes, 0);
        tape.bytes.clear();
        past.commit();
        return port.waits.many();
    }

    public int put(int n) {
        if (!hasLine) {
            return refuse(NO_LINE);
        }
        if (n < 1 || n > PUT_MOST) {
            return refuse(OUT_OF_BOUNDS);
        }
        past.stage(now);
        int done = now.putFrames(n, framing);
        if (done > 0) {
            past.commit();
        }
        return done;
    }

    private int refuse(int why) {
        if (why >= 0 && why < refused.length) {
            refused[why]++;
        }
        return NONE;
    }

    // ---- bytes on the LINE

    public int byteAt(int i) {
        return now.wire.at(i);
    }

    public int flip(int i, int v) {
        if (!hasLine) {
            return refuse(NO_LINE);
        }
        if (!now.wire.has(i)) {
            return refuse(NO_SUCH);
        }
        if (!isFlip(v)) {
            return refuse(OUT_OF_BOUNDS);
        }
        past.stage(now);
        now.wire.set(i, now.wire.at(i) ^ v);
        past.commit();
        return now.wire.at(i);
    }

    private static boolean isFlip(int v) {
        return v >= 1 && v <= 255;
    }

    public int lose(int i) {
        if (!hasLine) {
            return refuse(NO_LINE);
        }
        if (!now.wire.has(i)) {
            return refuse(NO_SUCH);
        }
        int lost = now.wire.at(i);
        past.stage(now);
        now.wire.removeAt(i);
        past.commit();
        return lost;
    }

    public int insert(int i, int v) {
        if (!hasLine) {
            return refuse(NO_LINE);
        }
        if (i < 0 || i > now.wire.size) {
            return refuse(NO_SUCH);
        }
        if (v < 0 || v > 255) {
            return refuse(OUT_OF_BOUNDS);
        }
        if (now.wire.size >= LINE_MOST) {
            return refuse(FULL);
        }
        past.stage(now);
        now.wire.insertAt(i, v);
        past.commit();
        return now.wire.size;
    }

    public int noise(int n, long seed) {
        if (!hasLine) {
            return refuse(NO_LINE);
        }
        if (n < 1 || n > NOISE_MOST) {
            return refuse(OUT_OF_BOUNDS);
        }
        past.stage(now);
        draws.seed = seed;
        int done = 0;
        for (int k = 0; k < n; k++) {
            if (now.disturb(draws)) {
                done++;
            }
        }
        if (done > 0) {
            past.commit();
        }
        return done;
    }

    // ---- the reader and what it has put together

    public int read(int n) {
        if (!hasLine) {
            return refuse(NO_LINE);
        }
        if (n < 1 || n > LINE_MOST) {
            return refuse(OUT_OF_BOUNDS);
        }
        if (now.wire.size == 0) {
            return 0;
        }
        past.stage(now);
        int events = now.readBytes(n, framing);
        past.commit();
        return events;
    }

    public int take(int channel) {
        if (!hasLine) {
            return refuse(NO_LINE);
        }
        Port port = now.portAt(channel);
        if (port == null || port.there.many() == 0) {
            return refuse(NO_SUCH);
        }
        past.stage(now);
        port.giveInto(inHand);
        past.commit();
        return inHand.size;
    }

    public int hand(int k) {
        return inHand.at(k);
    }

    public int renew(int channel) {
        if (!hasLine) {
            return refuse(NO_LINE);
        }
        Port port = now.portAt(channel);
        if (port == null) {
            return refuse(NO_SUCH);
        }
        if (port.credits >= port.told) {
            return refuse(OUT_OF_BOUNDS);
        }
        past.stage(now);
        port.credits = port.told;
        past.commit();
        return port.credits;
    }

    public int channel(int channel, int what) throws NoSuchElementException {
        Port port = now.portAt(channel);
        if (port == null) {
            throw new NoSuchElementException("no such channel");
        }
        switch (what) {
            case 0: return port.credits;
            case 1: return port.told;
            case 2: return port.waits.many();
            case 3: return port.gone;
            case 4: return port.number;
            case 5: return port.expected;
            case 6: return port.lost;
            case 7: return port.torn;
            case 8: return port.there.many();
            case 9: return port.frames;
            case 10: return port.built.size;
            case 11: return port.taken;
            default: throw new NoSuchElementException("no such what");
        }
    }

    public int event(int i, int what) {
        if (i < 0 || i >= EVENTS_MOST || what < 0 || what >= EVENT_CELLS) {
            return NONE;
        }
        return now.events.at(now.events.size - EVENT_CELLS * (i + 1) + what);
    }

    // ---- stuffing by hand

    public int stuff(int way) {
        if (!isWay(way)) {
            return NONE;
        }
        framing.rules.stuffing.pack(tape.bytes, way, inBox);
        tape.bytes.clear();
        return inBox.size;
    }

    public int unstuff(int way) {
        if (!isWay(way)) {
            return NONE;
        }
        Row plain = framing.plain;
        int wrong = framing.rules.stuffing.unpack(tape.bytes, 0, tape.bytes.size, way, plain);
        if (wrong != NONE) {
            return -2 - wrong;
        }
        inBox.copyFrom(plain);
        tape.bytes.clear();
        return inBox.size;
    }

    private static boolean isWay(int way) {
        return way == PLAIN || way == PAIRS || way == REDUCED;
    }

    public int box(int k) {
        return inBox.at(k);
    }

    public int shortest() {
        int best = PLAIN;
        int least = stuffedLength(PLAIN);
        for (int way = PAIRS; way <= REDUCED; way++) {
            int length = stuffedLength(way);
            if (length < least) {
                best = way;
                least = length;
            }
        }
        return best;
    }

    private int stuffedLength(int way) {
        framing.rules.stuffing.pack(tape.bytes, way, framing.packed);
        return framing.packed.size;
    }

    public int bound(int n) {
        if (n < 0 || n > TAPE_MOST) {
            return NONE;
        }
        return framing.rules.stuffing.widest(n);
    }

    // ---- what FRAMES on the LINE are, what would become of them

    public int frame(int k, int what) {
        if (what < 0 || what > 4 || !walk.find(now.wire, k)) {
            return NONE;
        }
        if (what == 0) {
            return walk.from;
        }
        if (what == 1) {
            return walk.length;
        }
        int kind = framing.judge(now.wire, walk.from, walk.length);
        if (what == 2) {
            return kind;
        }
        if (kind == BROKEN || kind == BAD) {
            return NONE;
        }
        return what == 3 ? framing.head >> 6 : framing.head & 15;
    }

    public int harm(int i, int v) {
        if (!hasLine || !now.wire.has(i) || !isFlip(v)) {
            return HIDDEN;
        }
        spare.copyFrom(now);
        spare.readBytes(LINE_MOST, framing);
        int without = spare.messagesThere();
        spare.copyFrom(now);
        spare.wire.set(i, now.wire.at(i) ^ v);
        spare.readBytes(LINE_MOST, framing);
        return without - spare.messagesThere();
    }

    public int blind(int k) {
        if (!walk.find(now.wire, k)) {
            return NONE;
        }
        if (framing.judge(now.wire, walk.from, walk.length) != SOUND) {
            return -2;
        }
        return framing.blindFlips(now.wire, walk.from, walk.length);
    }

    public int cost(int n, int what) {
        if (!hasLine || n < 0 || n > MESSAGE_MOST || what < 0 || what > 1) {
            return NONE;
        }
        int size = framing.rules.size;
        int frames = 0;
        int bytes = 0;
        int left = n;
        for (int k = 0; k <= MESSAGE_MOST && (k == 0 || left > 0); k++) {
            int part = Math.min(size, left);
            frames++;
            bytes += framing.rules.widestFrame(part);
            left -= part;
        }
        return what == 0 ? frames : bytes;
    }

    public int share(int channel, int what) {
        if (now.portAt(channel) == null || what < 0 || what > 3) {
            return NONE;
        }
        int frames = 0;
        int bytes = 0;
        int leftOut = 0;
        int parts = 0;
        int latest = NONE;
        walk.begin();
        for (int k = 0; k < LINE_MOST && walk.step(now.wire); k++) {
            if (framing.judge(now.wire, walk.from, walk.length) == SOUND && framing.head >> 6 == channel) {
                int number = framing.head & 15;
                leftOut += latest == NONE ? 0 : (number - latest - 1) & 15;
                latest = number;
                frames++;
                bytes += walk.length + 1;
                parts += framing.part;
            }
        }
        switch (what) {
            case 0: return frames;
            case 1: return bytes;
            case 2: return leftOut;
            default: return parts;
        }
    }

    public int flushed(int what) {
        if (!hasLine || what < 0 || what > 4) {
            return NONE;
        }
        spare.copyFrom(now);
        boolean more = true;
        // CREDITS don't come back meanwhile: two rounds more than there can be CREDITS always suffice.
        for (int round = 0; more && round <= LINE_MOST; round++) {
            int done = spare.putFrames(PUT_MOST, framing);
            more = done > 0 || spare.wire.size > 0;
            spare.readBytes(LINE_MOST, framing);
        }
        switch (what) {
            case 0: return spare.messagesThere();
            case 1: return spare.lostInAll();
            case 2: return spare.tornInAll();
            case 3: return spare.messagesWaiting();
            default: return spare.came - now.came;
        }
    }

    // ---- what was

    public int undo() {
        if (past.many == 0) {
            return NONE;
        }
        now = past.swapBack(now);
        return past.many;
    }

    public int image() {
        if (!hasLine) {
            return NONE;
        }
        kept.copyFrom(now);
        hasImage = true;
        return now.wire.size;
    }

    public int back() {
        if (!hasImage) {
            return NONE;
        }
        now.copyFrom(kept);
        past.forget();
        return now.wire.size;
    }

    // ---- counts

    public int status(int what) {
        return what >= 0 && what < refused.length ? refused[what] : NONE;
    }

    public int most(int what) {
        if (!hasLine) {
            return HIDDEN;
        }
        switch (what) {
            case 0: return now.portWithMostLost();
            case 1: return now.pick();
            case 2: return now.eventsUnreadable();
            case 3: return longestFrame();
            case 4: return now.bytesWaiting();
            case 5: return now.wire.greatest();
            default: return HIDDEN;
        }
    }

    private int longestFrame() {
        int longest = 0;
        walk.begin();
        for (int k = 0; k < LINE_MOST && walk.step(now.wire); k++) {
            longest = Math.max(longest, walk.length);
        }
        return longest;
    }

    public int count(int what) {
        switch (what) {
            case 0: return tape.bytes.size;
            case 1: return past.many;
            case 2: return inBox.size;
            case 3: return inHand.size;
            default: return NONE;
        }
    }

    /** A row of numbers up to a limit; its cells come as they are needed, since most rows of a State stay short. */
    private static final class Row {
        final int limit;
        int[] cells = new int[0];
        int size;

        Row(int limit) {
            this.limit = limit;
        }

        boolean has(int i) {
            return i >= 0 && i < size;
        }

        int at(int i) {
            return has(i) ? cells[i] : NONE;
        }

        void set(int i, int value) {
            if (has(i)) {
                cells[i] = value;
            }
        }

        void clear() {
            size = 0;
        }

        void add(int value) {
            if (size < limit) {
                makeRoom(size + 1);
                cells[size] = value;
                size++;
            }
        }

        void addAll(Row other, int from, int n) {
            if (from < 0 || n <= 0 || n > other.size - from || n > limit - size) {
                return;
            }
            makeRoom(size + n);
            System.arraycopy(other.cells, from, cells, size, n);
            size += n;
        }

        /** Four times the room at once: all that is left behind stays below four thirds of the limit. */
        private void makeRoom(int wanted) {
            if (wanted > cells.length) {
                int[] wider = new int[Math.min(limit, Math.max(wanted, Math.max(16, 4 * cells.length)))];
                System.arraycopy(cells, 0, wider, 0, size);
                cells = wider;
            }
        }

        void insertAt(int i, int value) {
            if (i < 0 || i > size || size >= limit) {
                return;
            }
            makeRoom(size + 1);
            System.arraycopy(cells, i, cells, i + 1, size - i);
            cells[i] = value;
            size++;
        }

        void removeAt(int i) {
            if (has(i)) {
                System.arraycopy(cells, i + 1, cells, i, size - i - 1);
                size--;
            }
        }

        void dropFirst(int n) {
            if (n > 0 && n <= size) {
                System.arraycopy(cells, n, cells, 0, size - n);
                size -= n;
            }
        }

        void copyFrom(Row other) {
            int many = Math.min(limit, other.size);
            size = 0;
            makeRoom(many);
            System.arraycopy(other.cells, 0, cells, 0, many);
            size = many;
        }

        int greatest() {
            int best = NONE;
            for (int i = 0; i < size; i++) {
                best = Math.max(best, cells[i]);
            }
            return best;
        }
    }

    /** The TAPE, and how it is understood as a LINE. */
    private static final class Tape {
        private static final int PART_END = 0;
        private static final int PART_WORD = 1;
        private static final int PART_NUMBER = 2;
        private static final int PART_OTHER = 3;

        private static final int SORT_WAY = 0;
        private static final int SORT_LONGEST = 1;
        private static final int SORT_PAIRS = 2;
        private static final int SORT_CHECK = 3;
        private static final int SORT_SIZE = 4;
        private static final int SORT_CHANNEL = 5;

        final Row bytes = new Row(TAPE_MOST);
        /** What the pieces understood so far tell. */
        final Rules told = new Rules();
        private int kind;
        private int from;
        private int to;
        private int sortsSeen;

        /** The FAULT, or NONE: then all is told. */
        int firstFault() {
            told.forget();
            sortsSeen = 0;
            to = 0;
            for (int piece = 0; piece <= TAPE_MOST; piece++) {
                nextPart();
                int sort = kind == PART_WORD ? sortOfWord() : NONE;
                if (sort == NONE || !mayStand(sort)) {
                    return from;
                }
                nextPart();
                if (!tell(sort)) {
                    return from;
                }
                nextPart();
                if (kind == PART_END) {
                    return told.ports == 0 ? from : NONE;
                }
                if (kind != PART_OTHER || bytes.at(from) != ';') {
                    return from;
                }
            }
            return bytes.size;
        }

        private void nextPart() {
            from = to;
            for (int i = to; i < bytes.size && bytes.at(i) == ' '; i++) {
                from = i + 1;
            }
            int first = bytes.at(from);
            if (first == NONE) {
                kind = PART_END;
                to = from;
            } else if (isLetter(first)) {
                kind = PART_WORD;
                to = endOf(true);
            } else if (isDigit(first)) {
                kind = PART_NUMBER;
                to = endOf(false);
            } else {
                kind = PART_OTHER;
                to = from + 1;
            }
        }

        private int endOf(boolean letters) {
            for (int i = from; i < bytes.size; i++) {
                int value = bytes.at(i);
                if (!(letters ? isLetter(value) : isDigit(value))) {
                    return i;
                }
            }
            return bytes.size;
        }

        private static boolean isLetter(int value) {
            return value >= 'a' && value <= 'z';
        }

        private static boolean isDigit(int value) {
            return value >= '0' && value <= '9';
        }

        private int sortOfWord() {
            if (isWord("way")) {
                return SORT_WAY;
            }
            if (isWord("longest")) {
                return SORT_LONGEST;
            }
            if (isWord("pairs")) {
                return SORT_PAIRS;
            }
            if (isWord("check")) {
                return SORT_CHECK;
            }
            if (isWord("size")) {
                return SORT_SIZE;
            }
            return isWord("channel") ? SORT_CHANNEL : NONE;
        }

        private boolean isWord(String word) {
            if (kind != PART_WORD || to - from != word.length()) {
                return false;
            }
            for (int i = 0; i < word.length(); i++) {
                if (bytes.at(from + i) != word.charAt(i)) {
                    return false;
                }
            }
            return true;
        }

        private boolean mayStand(int sort) {
            if (sort == SORT_CHANNEL) {
                return told.ports < PORTS_MOST;
            }
            int bit = 1 << sort;
            boolean isNew = (sortsSeen & bit) == 0;
            sortsSeen |= bit;
            return isNew;
        }

        private boolean tell(int sort) {
            int value;
            switch (sort) {
                case SORT_WAY:
                    value = choice("plain", "pairs", "reduced");
                    told.way = value;
                    break;
                case SORT_LONGEST:
                    value = number(2, 60);
                    told.stuffing.longest = value;
                    break;
                case SORT_PAIRS:
                    value = number(1, 30);
                    told.stuffing.pairs = value;
                    break;
                case SORT_CHECK:
                    value = choice("none", "sum", "crc");
                    told.check = value;
                    break;
                case SORT_SIZE:
                    value = number(1, 60);
                    told.size = value;
                    break;
                default:
                    value = number(1, 8);
                    told.addPort(value);
                    break;
            }
            return value != NONE;
        }

        private int choice(String first, String second, String third) {
            if (isWord(first)) {
                return 0;
            }
            if (isWord(second)) {
                return 1;
            }
            return isWord(third) ? 2 : NONE;
        }

        private int number(int low, int high) {
            if (kind != PART_NUMBER || to - from > 2) {
                return NONE;
            }
            int value = 0;
            for (int i = from; i < to; i++) {
                value = 10 * value + bytes.at(i) - '0';
            }
            return value >= low && value <= high ? value : NONE;
        }
    }

    /** What a LINE's text tells. */
    private static final class Rules {
        final Stuffing stuffing = new Stuffing();
        final int[] credits = new int[PORTS_MOST];
        int way = PLAIN;
        int check = CHECK_SUM;
        int size = 16;
        int ports;

        void forget() {
            stuffing.longest = 20;
            stuffing.pairs = 10;
            way = PLAIN;
            check = CHECK_SUM;
            size = 16;
            ports = 0;
        }

        void copyFrom(Rules other) {
            stuffing.longest = other.stuffing.longest;
            stuffing.pairs = other.stuffing.pairs;
            way = other.way;
            check = other.check;
            size = other.size;
            ports = other.ports;
            System.arraycopy(other.credits, 0, credits, 0, PORTS_MOST);
        }

        void addPort(int told) {
            if (ports >= 0 && ports < PORTS_MOST) {
                credits[ports] = told;
                ports++;
            }
        }

        int checkBytes() {
            return check == CHECK_NONE ? 0 : 1;
        }

        int widestFrame(int part) {
            return stuffing.widest(1 + part + checkBytes()) + 1;
        }
    }

    /** Bytes STUFFED and UNSTUFFED; the way comes with each call, since it can be another than the LINE's. */
    private static final class Stuffing {
        int longest = 20;
        int pairs = 10;

        int widest(int n) {
            return n + Math.max(1, longest < 1 ? n : (n + longest - 1) / longest);
        }

        void pack(Row source, int way, Row target) {
            target.clear();
            int at = 0;
            boolean more = true;
            for (int block = 0; more && block <= source.size; block++) {
                int run = runFrom(source, at);
                int end = at + run;
                int code = codeOf(source, end, run, way);
                int codeAt = target.size;
                target.add(code);
                target.addAll(source, at, run);
                boolean endsInZero = code <= longest && end < source.size;
                at = end + (endsInZero ? 1 : code > longest + 1 ? 2 : 0);
                more = endsInZero || at < source.size;
                if (!more && way == REDUCED) {
                    reduce(target, codeAt);
                }
            }
        }

        private int runFrom(Row source, int at) {
            int run = 0;
            while (run < longest && source.at(at + run) > 0) {
                run++;
            }
            return run;
        }

        private int codeOf(Row source, int end, int run, int way) {
            boolean isShort = run < longest && run < pairs;
            boolean twoZeros = source.at(end) == 0 && source.at(end + 1) == 0;
            return way == PAIRS && isShort && twoZeros ? longest + 2 + run : run + 1;
        }

        /** The last byte says by being no less than the CODE that it stands in the CODE's place. */
        private static void reduce(Row target, int codeAt) {
            int lastAt = target.size - 1;
            if (lastAt > codeAt && target.at(lastAt) >= target.at(codeAt)) {
                target.set(codeAt, target.at(lastAt));
                target.size = lastAt;
            }
        }

        /** Where it is WRONG (counted from its begin), or NONE. */
        int unpack(Row source, int from, int n, int way, Row target) {
            target.clear();
            if (n <= 0) {
                return 0;
            }
            int at = 0;
            for (int block = 0; at < n && block < n; block++) {
                int code = source.at(from + at);
                int left = n - at - 1;
                int run = runOf(code, left, way);
                if (run == NONE) {
                    return at;
                }
                for (int k = 1; k <= run; k++) {
                    int value = source.at(from + at + k);
                    if (value <= 0) {
                        return at + k;
                    }
                    target.add(value);
                }
                at += 1 + run;
                if (isTail(code, left, way)) {
                    target.add(code);
                } else {
                    for (int zeros = zerosBehind(code, at < n); zeros > 0; zeros--) {
                        target.add(0);
                    }
                }
            }
            return NONE;
        }

        /** How many bytes belong to a CODE behind which so many are left; NONE: it is WRONG itself. */
        int runOf(int code, int left, int way) {
            if (code < 1) {
                return NONE;
            }
            if (isTail(code, left, way)) {
                return left;
            }
            int run = NONE;
            if (code <= longest + 1) {
                run = code - 1;
            } else if (way == PAIRS && code <= longest + 1 + pairs) {
                run = code - longest - 2;
            }
            return run <= left ? run : NONE;
        }

        private static boolean isTail(int code, int left, int way) {
            return way == REDUCED && code - 1 > left;
        }

        private int zerosBehind(int code, boolean more) {
            if (code > longest + 1) {
                return 2;
            }
            return code <= longest && more ? 1 : 0;
        }
    }

    /** FRAMES made and judged, by the rules of the LINE. */
    private static final class Framing {
        final Rules rules = new Rules();
        final Row plain = new Row(BOX_MOST);
        final Row packed = new Row(BOX_MOST);
        /** Of the FRAME judged last, if it was neither BROKEN nor BAD. */
        int head;
        int part;
        private final Row tried = new Row(READER_MOST);

        /** The next FRAME of a CHANNEL comes to stand STUFFED in packed; how many bytes its PART has. */
        int make(Port port, int channel) {
            int length = port.waits.firstLength();
            int partLength = Math.min(rules.size, length - port.gone);
            boolean last = port.gone + partLength >= length;
            plain.clear();
            plain.add(64 * channel + (port.gone == 0 ? HEAD_FIRST : 0) + (last ? HEAD_LAST : 0) + port.number);
            plain.addAll(port.waits.bytes, port.gone, partLength);
            if (rules.check != CHECK_NONE) {
                plain.add(checkOf(plain.size));
            }
            rules.stuffing.pack(plain, rules.way, packed);
            return partLength;
        }

        private int checkOf(int n) {
            int check = 0;
            for (int i = 0; i < n; i++) {
                check = rules.check == CHECK_CRC ? crcStep(check ^ plain.at(i)) : (check + plain.at(i)) & 255;
            }
            return check;
        }

        private static int crcStep(int start) {
            int crc = start;
            for (int bit = 0; bit < 8; bit++) {
                crc = ((2 * crc) & 255) ^ (crc >= 128 ? 7 : 0);
            }
            return crc;
        }

        /** What the bytes between two MARKS are by themselves: SOUND, BROKEN, BAD or STRANGE. */
        int judge(Row source, int from, int n) {
            if (n > READER_MOST || rules.stuffing.unpack(source, from, n, rules.way, plain) != NONE) {
                return BROKEN;
            }
            int checkAt = plain.size - rules.checkBytes();
            if (checkAt < 1) {
                return BAD;
            }
            if (rules.check != CHECK_NONE && plain.at(checkAt) != checkOf(checkAt)) {
                return BAD;
            }
            head = plain.at(0);
            part = checkAt - 1;
            return head >> 6 >= rules.ports || part > rules.size ? STRANGE : SOUND;
        }

        /**
         * BLIND of a FRAME that is SOUND. Only a CODE needs trying: one other byte that differs moves nothing, and
         * sum and crc both see each change of one byte; without a CHECK only the HEAD's CHANNEL can be harmed by it.
         */
        int blindFlips(Row source, int from, int n) {
            tried.clear();
            tried.addAll(source, from, n);
            int blind = 0;
            int at = 0;
            for (int block = 0; at < n && block < n; block++) {
                int left = n - at - 1;
                int run = rules.stuffing.runOf(tried.at(at), left, rules.way);
                if (run == NONE) {
                    return blind;
                }
                blind += blindCodes(at, left);
                if (rules.check == CHECK_NONE) {
                    blind += 254 * run;
                    if (at == 0 && run > 0) {
                        blind -= 256 - 64 * rules.ports;
                    }
                }
                at += 1 + run;
            }
            return blind;
        }

        private int blindCodes(int at, int left) {
            int blind = 0;
            int code = tried.at(at);
            for (int other = 1; other <= 255; other++) {
                if (other != code && rules.stuffing.runOf(other, left, rules.way) != NONE) {
                    tried.set(at, other);
                    blind += judge(tried, 0, tried.size) == SOUND ? 1 : 0;
                }
            }
            tried.set(at, code);
            return blind;
        }
    }

    /** Goes over the FRAMES on a LINE: what stands ahead of a MARK there and is not empty. */
    private static final class Walk {
        int from;
        int length;
        private int next;

        void begin() {
            from = 0;
            length = 0;
            next = 0;
        }

        boolean step(Row wire) {
            int start = next;
            for (int i = start; i < wire.size; i++) {
                if (wire.at(i) == 0) {
                    next = i + 1;
                    if (i > start) {
                        from = start;
                        length = i - start;
                        return true;
                    }
                    start = i + 1;
                }
            }
            next = wire.size;
            return false;
        }

        boolean find(Row wire, int k) {
            if (k < 0 || k >= wire.size) {
                return false;
            }
            begin();
            boolean found = true;
            for (int seen = 0; found && seen <= k; seen++) {
                found = step(wire);
            }
            return found;
        }
    }

    /** Messages one behind the other, each with how many FRAMES it had. */
    private static final class Mail {
        final Row bytes = new Row(MESSAGES_MOST * MESSAGE_MOST);
        private final Row lengths = new Row(MESSAGES_MOST);
        private final Row frames = new Row(MESSAGES_MOST);

        int many() {
            return lengths.size;
        }

        int firstLength() {
            return Math.max(0, lengths.at(0));
        }

        int firstFrames() {
            return Math.max(0, frames.at(0));
        }

        void push(Row message, int frameCount) {
            bytes.addAll(message, 0, message.size);
            lengths.add(message.size);
            frames.add(frameCount);
        }

        void dropFirst() {
            bytes.dropFirst(firstLength());
            lengths.dropFirst(1);
            frames.dropFirst(1);
        }

        void clear() {
            bytes.clear();
            lengths.clear();
            frames.clear();
        }

        void copyFrom(Mail other) {
            bytes.copyFrom(other.bytes);
            lengths.copyFrom(other.lengths);
            frames.copyFrom(other.frames);
        }
    }

    /** A CHANNEL: what it sends, and what the reader puts together for it. */
    private static final class Port {
        final Mail waits = new Mail();
        final Mail there = new Mail();
        final Row built = new Row(MESSAGE_MOST);
        int told;
        int credits;
        /** Bytes of the first message that WAITS which were put already. */
        int gone;
        int number;
        int expected;
        int lost;
        int torn;
        /** FRAMES put together so far; a message is begun as soon as there is one. */
        int frames;
        int taken;

        void reset(int toldCredits) {
            waits.clear();
            there.clear();
            built.clear();
            told = toldCredits;
            credits = toldCredits;
            gone = 0;
            number = 0;
            expected = 0;
            lost = 0;
            torn = 0;
            frames = 0;
            taken = 0;
        }

        void copyFrom(Port other) {
            waits.copyFrom(other.waits);
            there.copyFrom(other.there);
            built.copyFrom(other.built);
            told = other.told;
            credits = other.credits;
            gone = other.gone;
            number = other.number;
            expected = other.expected;
            lost = other.lost;
            torn = other.torn;
            frames = other.frames;
            taken = other.taken;
        }

        void frameWasPut(int part) {
            credits--;
            number = (number + 1) & 15;
            gone += part;
            if (gone >= waits.firstLength()) {
                waits.dropFirst();
                gone = 0;
            }
        }

        /** A SOUND FRAME, UNSTUFFED: what its EVENT is. */
        int accept(Row plain, int part) {
            int head = plain.at(0);
            int got = head & 15;
            if (got != expected) {
                lost += (got - expected) & 15;
                tear();
            }
            expected = (got + 1) & 15;
            if ((head & HEAD_FIRST) != 0) {
                tear();
            } else if (frames == 0) {
                return SKIPPED;
            } else if (built.size + part > MESSAGE_MOST) {
                tear();
                return SKIPPED;
            }
            built.addAll(plain, 1, part);
            frames++;
            if ((head & HEAD_LAST) == 0) {
                return ADDED;
            }
            if (there.many() >= MESSAGES_MOST) {
                tear();
                return CROWDED;
            }
            there.push(built, frames);
            built.clear();
            frames = 0;
            return COMPLETE;
        }

        private void tear() {
            if (frames > 0) {
                torn++;
            }
            built.clear();
            frames = 0;
        }

        void giveInto(Row hand) {
            hand.clear();
            hand.addAll(there.bytes, 0, there.firstLength());
            credits = Math.min(told, credits + there.firstFrames());
            there.dropFirst();
            taken++;
        }
    }

    /** All that an ACT can change and an IMAGE keeps: CHANNELS, the LINE, the reader, EVENTS. */
    private static final class State {
        final Row wire = new Row(LINE_MOST);
        final Row reader = new Row(READER_MOST);
        final Row events = new Row(EVENTS_MOST * EVENT_CELLS);
        int came;
        int picked = NONE;
        private final Port[] ports = new Port[PORTS_MOST];
        private int portCount;
        private boolean readerOver;

        State() {
            for (int c = 0; c < PORTS_MOST; c++) {
                ports[c] = new Port();
            }
        }

        void reset(Rules rules) {
            wire.clear();
            reader.clear();
            events.clear();
            came = 0;
            picked = NONE;
            readerOver = false;
            portCount = rules.ports;
            for (int c = 0; c < portCount; c++) {
                ports[c].reset(rules.credits[c]);
            }
        }

        void copyFrom(State other) {
            wire.copyFrom(other.wire);
            reader.copyFrom(other.reader);
            events.copyFrom(other.events);
            came = other.came;
            picked = other.picked;
            readerOver = other.readerOver;
            portCount = other.portCount;
            for (int c = 0; c < portCount; c++) {
                ports[c].copyFrom(other.ports[c]);
            }
        }

        Port portAt(int channel) {
            return channel >= 0 && channel < portCount ? ports[channel] : null;
        }

        int pick() {
            int best = NONE;
            int most = 0;
            int before = picked == NONE ? portCount - 1 : picked;
            for (int k = 1; k <= portCount; k++) {
                int c = (before + k) % portCount;
                if (ports[c].waits.many() > 0 && ports[c].credits > most) {
                    best = c;
                    most = ports[c].credits;
                }
            }
            return best;
        }

        int putFrames(int n, Framing framing) {
            int done = 0;
            while (done < n && putFrame(framing)) {
                done++;
            }
            return done;
        }

        private boolean putFrame(Framing framing) {
            int channel = pick();
            Port port = portAt(channel);
            if (port == null) {
                return false;
            }
            int part = framing.make(port, channel);
            if (wire.size + framing.packed.size + 1 > LINE_MOST) {
                return false;
            }
            wire.addAll(framing.packed, 0, framing.packed.size);
            wire.add(0);
            port.frameWasPut(part);
            picked = channel;
            return true;
        }

        boolean disturb(Draws draws) {
            int sort = draws.draw(3);
            if (sort == 2) {
                if (wire.size >= LINE_MOST) {
                    return false;
                }
                int where = draws.draw(wire.size + 1);
                wire.insertAt(where, draws.draw(255) + 1);
                return true;
            }
            if (wire.size == 0) {
                return false;
            }
            int where = draws.draw(wire.size);
            if (sort == 0) {
                wire.set(where, wire.at(where) ^ (draws.draw(255) + 1));
            } else {
                wire.removeAt(where);
            }
            return true;
        }

        int readBytes(int n, Framing framing) {
            int before = came;
            int many = Math.min(n, wire.size);
            for (int i = 0; i < many; i++) {
                int value = wire.at(i);
                if (value == 0) {
                    readMark(framing);
                } else if (reader.size < READER_MOST) {
                    reader.add(value);
                } else {
                    readerOver = true;
                }
            }
            wire.dropFirst(many);
            return came - before;
        }

        private void readMark(Framing framing) {
            if (reader.size == 0) {
                return;
            }
            int kind = readerOver ? BROKEN : framing.judge(reader, 0, reader.size);
            boolean told = kind != BROKEN && kind != BAD;
            int channel = told ? framing.head >> 6 : NONE;
            Port port = kind == SOUND ? portAt(channel) : null;
            if (port != null) {
                kind = port.accept(framing.plain, framing.part);
            }
            if (events.size >= EVENTS_MOST * EVENT_CELLS) {
                events.dropFirst(EVENT_CELLS);
            }
            events.add(kind);
            events.add(told ? framing.head : NONE);
            events.add(reader.size);
            events.add(told ? framing.part : NONE);
            events.add(channel);
            came++;
            reader.clear();
            readerOver = false;
        }

        int messagesThere() {
            int sum = 0;
            for (int c = 0; c < portCount; c++) {
                sum += ports[c].there.many();
            }
            return sum;
        }

        int messagesWaiting() {
            int sum = 0;
            for (int c = 0; c < portCount; c++) {
                sum += ports[c].waits.many();
            }
            return sum;
        }

        int bytesWaiting() {
            int sum = 0;
            for (int c = 0; c < portCount; c++) {
                sum += ports[c].waits.bytes.size - ports[c].gone;
            }
            return sum;
        }

        int lostInAll() {
            int sum = 0;
            for (int c = 0; c < portCount; c++) {
                sum += ports[c].lost;
            }
            return sum;
        }

        int tornInAll() {
            int sum = 0;
            for (int c = 0; c < portCount; c++) {
                sum += ports[c].torn;
            }
            return sum;
        }

        int portWithMostLost() {
            int best = 0;
            for (int c = 1; c < portCount; c++) {
                if (ports[c].lost > ports[best].lost) {
                    best = c;
                }
            }
            return best;
        }

        int eventsUnreadable() {
            int many = 0;
            for (int i = 0; i < events.size; i += EVENT_CELLS) {
                int kind = events.at(i);
                many += kind == BROKEN || kind == BAD ? 1 : 0;
            }
            return many;
        }
    }

    /** What was ahead of the latest ACTS; one place more than ACTS, to try an ACT that may turn out to do nothing. */
    private static final class Past {
        int many;
        private final State[] states = new State[ACTS_MOST + 1];
        private int next;

        void forget() {
            many = 0;
        }

        void stage(State now) {
            if (states[next] == null) {
                states[next] = new State();
            }
            states[next].copyFrom(now);
        }

        void commit() {
            next = (next + 1) % (ACTS_MOST + 1);
            many = Math.min(ACTS_MOST, many + 1);
        }

        /** The State ahead of the latest ACT, for the one that is now: that serves as room later. */
        State swapBack(State now) {
            int latest = (next + ACTS_MOST) % (ACTS_MOST + 1);
            State before = states[latest];
            if (many == 0 || before == null) {
                return now;
            }
            states[latest] = now;
            next = latest;
            many--;
            return before;
        }
    }

    /** DRAWS: all of the NOISE of a call comes from its seed, so that the same call always does the same. */
    private static final class Draws {
        long seed;

        int draw(int m) {
            seed = seed * 6364136223846793005L + 1442695040888963407L;
            return m < 1 ? 0 : (int) ((seed >>> 33) % m);
        }
    }
}
