import java.util.NoSuchElementException;

/**
 * A QuietLine whose calls are counted: what the 513th and later ones answer is free, so no test may ask these.
 * Rows of answers are told as texts, "1 2 3", so that a test compares a whole row at once.
 */
final class Bench {
    private static final int CALLS_MOST = 512;
    /** FRAMES of 64 bytes with the MARK: a PART of 60 bytes that aren't 0. */
    private static final String LONG_FRAMES = "check none;size 60;longest 60;channel 8;channel 8";
    private final QuietLine x = new QuietLine();
    private int calls;

    static Bench of(String text) {
        Bench b = new Bench();
        b.text(text);
        if (b.on().line() < 1) {
            throw new IllegalStateException("no LINE by '" + text + "'");
        }
        return b;
    }

    /** The object, for one call. */
    QuietLine on() {
        calls++;
        if (calls > CALLS_MOST) {
            throw new IllegalStateException("more than 512 calls on one object");
        }
        return x;
    }

    /** How many calls the object can still be asked. */
    int left() {
        return CALLS_MOST - calls;
    }

    // ---- what comes in

    Bench tape(int... bytes) {
        on().end(0);
        for (int i = 0; i < bytes.length; i += 20) {
            int[] five = new int[5];
            for (int k = 0; k < 20; k++) {
                five[k / 4] = five[k / 4] << 8 | (i + k < bytes.length ? bytes[i + k] : 0);
            }
            on().feed(five[0], five[1], five[2], five[3], five[4]);
        }
        on().end(bytes.length);
        return this;
    }

    Bench text(String text) {
        return tape(text.chars().toArray());
    }

    int send(int channel, int... bytes) {
        tape(bytes);
        return on().send(channel);
    }

    /** n bytes of 7. */
    static int[] sevens(int n) {
        int[] bytes = new int[n];
        java.util.Arrays.fill(bytes, 7);
        return bytes;
    }

    /** Bytes put in by hand at the LINE's end. */
    Bench wired(int... bytes) {
        int n = on().rule(6);
        for (int v : bytes) {
            n = on().insert(n, v);
        }
        return this;
    }

    /** Bytes put in by hand, and all is READ: how many EVENTS came. */
    int heard(int... bytes) {
        wired(bytes);
        return on().read(600);
    }

    /** So many bytes on the LINE, in whole FRAMES. Of more than 579: CHANNEL 0 has no CREDITS left, CHANNEL 1 has six. */
    static Bench filled(int bytes) {
        Bench b = of(LONG_FRAMES);
        int whole = bytes / 64;
        int rest = bytes % 64;
        for (int k = 0; k < whole; k++) {
            b.send(k < 8 ? 0 : 1, sevens(60));
        }
        if (rest > 0) {
            b.send(1, sevens(rest - 3));
        }
        b.on().put(60);
        if (b.on().rule(6) != bytes) {
            throw new IllegalStateException("not " + bytes + " bytes on the LINE");
        }
        return b;
    }

    /**
     * So many bytes (191 .. 255) without a 0 ahead of one MARK, that aren't WRONG: three FRAMES of 64 with CODES of 1 in
     * place of the MARKS between, and more of these ahead.
     */
    static Bench without(int bytes) {
        Bench b = filled(192);
        b.on().flip(63, 1);
        b.on().flip(127, 1);
        for (int k = 191; k < bytes; k++) {
            b.on().insert(0, 1);
        }
        return b;
    }

    // ---- what is there

    private static String told(int[] answers) {
        StringBuilder b = new StringBuilder();
        for (int v : answers) {
            b.append(b.length() == 0 ? "" : " ").append(v);
        }
        return b.toString();
    }

    String wire() {
        int[] bytes = new int[Math.max(0, on().rule(6))];
        for (int i = 0; i < bytes.length; i++) {
            bytes[i] = on().byteAt(i);
        }
        return told(bytes);
    }

    String box() {
        int[] bytes = new int[on().count(2)];
        for (int i = 0; i < bytes.length; i++) {
            bytes[i] = on().box(i);
        }
        return told(bytes);
    }

    String hand() {
        int[] bytes = new int[on().count(3)];
        for (int i = 0; i < bytes.length; i++) {
            bytes[i] = on().hand(i);
        }
        return told(bytes);
    }

    String stuffed(int way, int... bytes) {
        tape(bytes);
        int n = on().stuff(way);
        String answer = box();
        return n == on().count(2) ? answer : "answered " + n + " with " + answer;
    }

    String unstuffed(int way, int... bytes) {
        tape(bytes);
        int n = on().unstuff(way);
        if (n < 0) {
            return "WRONG " + (-2 - n);
        }
        String answer = box();
        return n == on().count(2) ? answer : "answered " + n + " with " + answer;
    }

    String event(int i) {
        int[] cells = new int[5];
        for (int what = 0; what < 5; what++) {
            cells[what] = on().event(i, what);
        }
        return told(cells);
    }

    String frame(int k) {
        int[] cells = new int[5];
        for (int what = 0; what < 5; what++) {
            cells[what] = on().frame(k, what);
        }
        return told(cells);
    }

    /** 0 CREDITS, 1 told, 2 WAIT, 3 put so far, 4 next, 5 EXPECTED, 6 LOST, 7 TORN, 8 THERE, 9 FRAMES, 10 bytes, 11 TAKEN. */
    String channel(int c) {
        int[] cells = new int[12];
        for (int what = 0; what < 12; what++) {
            cells[what] = on().channel(c, what);
        }
        return told(cells);
    }

    boolean throwsNoSuch(int c, int what) {
        try {
            on().channel(c, what);
            return false;
        } catch (NoSuchElementException e) {
            return true;
        }
    }

    String status() {
        int[] cells = new int[4];
        for (int what = 0; what < 4; what++) {
            cells[what] = on().status(what);
        }
        return told(cells);
    }

    String flushed() {
        int[] cells = new int[5];
        for (int what = 0; what < 5; what++) {
            cells[what] = on().flushed(what);
        }
        return told(cells);
    }

    /** All but STATUS, bytes one by one left out: it is the same ahead of and behind a call that changes nothing. */
    String look() {
        StringBuilder b = new StringBuilder();
        for (int what = 0; what < 12; what++) {
            b.append(on().rule(what)).append(' ');
        }
        for (int what = 0; what < 6; what++) {
            b.append(on().most(what)).append(' ');
        }
        for (int what = 0; what < 4; what++) {
            b.append(on().count(what)).append(' ');
        }
        int channels = Math.max(0, on().rule(5));
        for (int c = 0; c < channels; c++) {
            b.append("; ").append(channel(c));
        }
        return b.append("; ").append(event(0)).append("; ").append(flushed()).toString();
    }
}
