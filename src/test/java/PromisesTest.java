import java.util.NoSuchElementException;

/** Each promise of the document by itself; the numbers due were worked out by hand from the document's words. */
public final class PromisesTest {
    private static int wrong = 0;
    private static int asked = 0;
    private static final int NONE = -1;
    private static final int HIDDEN = -1000000;

    private static void due(String what, long got, long want) {
        asked++;
        if (got != want) {
            wrong++;
            System.out.println(what + " answered " + got + ", due is " + want);
        }
    }

    // ---- helpers

    private static void tape(QuietLine x, int... bytes) {
        x.end(0);
        for (int i = 0; i < bytes.length; i += 20) {
            int[] five = new int[5];
            for (int k = 0; k < 20; k++) {
                five[k / 4] = five[k / 4] << 8 | (i + k < bytes.length ? bytes[i + k] : 0);
            }
            x.feed(five[0], five[1], five[2], five[3], five[4]);
        }
        x.end(bytes.length);
    }

    private static void text(QuietLine x, String text) {
        tape(x, text.chars().toArray());
    }

    private static QuietLine lineOf(String text) {
        QuietLine x = new QuietLine();
        text(x, text);
        due("line() of '" + text + "' is none", x.line() == NONE ? 1 : 0, 0);
        return x;
    }

    private static void sent(QuietLine x, int channel, int... bytes) {
        tape(x, bytes);
        x.send(channel);
    }

    /** n bytes 1, 2, .., 200, 1, .. */
    private static int[] row(int n) {
        int[] bytes = new int[n];
        for (int i = 0; i < n; i++) {
            bytes[i] = i % 200 + 1;
        }
        return bytes;
    }

    /** Bytes put in by hand at the LINE's end. */
    private static void onLine(QuietLine x, int... bytes) {
        for (int v : bytes) {
            x.insert(x.rule(6), v);
        }
    }

    private static void dueLine(String what, QuietLine x, int... bytes) {
        due(what + ": bytes on the LINE", x.rule(6), bytes.length);
        for (int i = 0; i < bytes.length; i++) {
            due(what + ": byteAt(" + i + ")", x.byteAt(i), bytes[i]);
        }
    }

    private static void dueBox(String what, QuietLine x, int... bytes) {
        due(what + ": bytes in the BOX", x.count(2), bytes.length);
        for (int i = 0; i < bytes.length; i++) {
            due(what + ": box(" + i + ")", x.box(i), bytes[i]);
        }
        due(what + ": box behind", x.box(bytes.length), NONE);
    }

    private static void dueEvent(String what, QuietLine x, int... cells) {
        for (int k = 0; k < 5; k++) {
            due(what + ": event(0, " + k + ")", x.event(0, k), cells[k]);
        }
    }

    private static void dueStatus(String what, QuietLine x, int... counts) {
        for (int k = 0; k < 4; k++) {
            due(what + ": status(" + k + ")", x.status(k), counts[k]);
        }
    }

    private static void dueChannel(String what, QuietLine x, int channel, int... answers) {
        for (int k = 0; k < answers.length; k++) {
            due(what + ": channel(" + channel + ", " + k + ")", x.channel(channel, k), answers[k]);
        }
    }

    private static int thrown(QuietLine x, int channel, int what) {
        try {
            x.channel(channel, what);
            return 0;
        } catch (NoSuchElementException e) {
            return 1;
        }
    }

    // ---- the promises

    private static void promise1() {
        QuietLine x = new QuietLine();
        due("1 rule", x.rule(5), HIDDEN);
        due("1 tape", x.count(0), 0);
        due("1 acts", x.count(1), 0);
        due("1 box", x.count(2), 0);
        due("1 hand", x.count(3), 0);
        dueStatus("1", x, 0, 0, 0, 0);
        due("NONE", QuietLine.NONE, NONE);
        due("HIDDEN", QuietLine.HIDDEN, HIDDEN);
    }

    private static void promise2() {
        QuietLine x = new QuietLine();
        due("2 feed", x.feed(0x01020304, 0x05060708, 0xfffefdfc, Integer.MIN_VALUE, 0), 20);
        x.end(16);
        due("2 unstuff says which bytes", x.unstuff(2), -2 - 13);
        x.end(0);
        x.feed(0x06010203, 0x04ff0000, 0, 0, 0);
        x.end(6);
        x.unstuff(0);
        dueBox("2 highest first", x, 1, 2, 3, 4, 255);
        for (int k = 1; k <= 15; k++) {
            due("2 feed " + k, x.feed(1, 2, 3, 4, 5), 20 * k);
        }
        due("2 more than 300", x.feed(1, 2, 3, 4, 5), NONE);
        due("2 it stays", x.count(0), 300);
        x.end(281);
        due("2 301 would be too many", x.feed(1, 2, 3, 4, 5), NONE);
        x.end(280);
        due("2 300 are not", x.feed(1, 2, 3, 4, 5), 300);
    }

    private static void promise3() {
        QuietLine x = new QuietLine();
        due("3 nothing of nothing", x.end(0) ? 1 : 0, 1);
        due("3 one of nothing", x.end(1) ? 1 : 0, 0);
        x.feed(0, 0, 0, 0, 0);
        due("3 too many", x.end(21) ? 1 : 0, 0);
        due("3 below 0", x.end(-1) ? 1 : 0, 0);
        due("3 stays", x.count(0), 20);
        due("3 all", x.end(20) ? 1 : 0, 1);
        due("3 some", x.end(7) ? 1 : 0, 1);
        due("3 has seven", x.count(0), 7);
        due("3 no more than that", x.end(8) ? 1 : 0, 0);
    }

    private static void faultOf(String text, int fault) {
        QuietLine x = new QuietLine();
        text(x, text);
        due("4 fault() of '" + text + "'", x.fault(), fault);
        due("4 the TAPE stays", x.count(0), text.length());
    }

    private static void promise4() {
        faultOf("", 0);
        faultOf("   ", 3);
        faultOf("channel 1", NONE);
        faultOf("channel1", NONE);
        faultOf("  channel  8  ", NONE);
        faultOf("channel 08", NONE);
        faultOf("channel 008", 8);
        faultOf("channel 0", 8);
        faultOf("channel 9", 8);
        faultOf("channel", 7);
        faultOf("channel ", 8);
        faultOf("channel x", 8);
        faultOf("channel ;", 8);
        faultOf("channels 1", 0);
        faultOf("Channel 1", 0);
        faultOf("chaNnel 1", 0);
        faultOf("cha", 0);
        faultOf("1", 0);
        faultOf(";channel 1", 0);
        faultOf("channel 1;", 10);
        faultOf("channel 1; ", 11);
        faultOf("channel 1;;channel 1", 10);
        faultOf("channel 1 2", 10);
        faultOf("channel 1 channel 2", 10);
        faultOf("channel 1,channel 2", 9);
        faultOf("channel 1;channel 2;channel 3;channel 4", NONE);
        faultOf("channel 1;channel 2;channel 3;channel 4; channel 5", 41);
        faultOf("way plain;channel 1", NONE);
        faultOf("way pairs ; channel 1 ; pairs 30", NONE);
        faultOf("way reduced;channel 1", NONE);
        faultOf("way;channel 1", 3);
        faultOf("wayplain;channel 1", 0);
        faultOf("way 1;channel 1", 4);
        faultOf("way none;channel 1", 4);
        faultOf("way plain;way plain;channel 1", 10);
        faultOf("way plain", 9);
        faultOf("way plain  ", 11);
        faultOf("longest 2;channel 1", NONE);
        faultOf("longest 60;channel 1", NONE);
        faultOf("longest 1;channel 1", 8);
        faultOf("longest 61;channel 1", 8);
        faultOf("longest 2;longest 2", 10);
        faultOf("pairs 1;channel 1", NONE);
        faultOf("pairs 0;channel 1", 6);
        faultOf("pairs 31;channel 1", 6);
        faultOf("pairs 1;pairs 2", 8);
        faultOf("check none;channel 1", NONE);
        faultOf("check sum;channel 1", NONE);
        faultOf("check crc;channel 1", NONE);
        faultOf("check plain;channel 1", 6);
        faultOf("check crc;check sum", 10);
        faultOf("size 1;channel 1", NONE);
        faultOf("size 60;channel 1", NONE);
        faultOf("size 0;channel 1", 5);
        faultOf("size 61;channel 1", 5);
        faultOf("size 100;channel 1", 5);
        faultOf("size 5;size 5", 7);
        faultOf("channel 1\t", 9);
        faultOf("\u00e9channel 1", 0);
        faultOf("channel 1\u0000", 9);
        faultOf("size5;longest3;pairs4;wayx", 25 - 3);
    }

    private static void promise5() {
        QuietLine x = new QuietLine();
        due("5 no text", x.line(), NONE);
        text(x, "channel 2;channel 9");
        due("5 a FAULT", x.line(), NONE);
        due("5 the TAPE stays", x.count(0), 19);
        due("5 no LINE still", x.rule(0), HIDDEN);
        text(x, "channel 2;channel 3;check none");
        due("5 how many CHANNELS", x.line(), 2);
        due("5 the TAPE is empty", x.count(0), 0);

        sent(x, 0, 7);
        x.put(1);
        x.read(600);
        x.take(0);
        sent(x, 1, 8, 9);
        x.put(1);
        x.read(1);
        x.image();
        x.put(0);
        tape(x, 5);
        x.stuff(0);
        text(x, "nonsense");
        due("5 a FAULT with a LINE", x.line(), NONE);
        due("5 all stays", x.rule(6), 4);
        due("5 ACTS stay", x.count(1), 7);

        text(x, "channel 4");
        due("5 another LINE", x.line(), 1);
        due("5 bytes on the LINE are gone", x.rule(6), 0);
        due("5 what the reader had is gone", x.rule(8), 0);
        due("5 EVENTS are gone", x.rule(9), 0);
        due("5 EVENTS kept are gone", x.event(0, 0), NONE);
        due("5 the CHANNEL picked last is gone", x.rule(10), NONE);
        due("5 ACTS are gone", x.count(1), 0);
        due("5 none is UNDONE", x.undo(), NONE);
        due("5 the IMAGE is gone", x.back(), NONE);
        due("5 the HAND is gone", x.hand(0), NONE);
        due("5 the HAND is empty", x.count(3), 0);
        due("5 STATUS stays", x.status(2), 1);
        dueBox("5 BOX stays", x, 2, 5);
        dueChannel("5 new CHANNEL", x, 0, 4, 4, 0, 0, 0, 0, 0, 0, 0, 0, 0, 0);
        due("5 the other CHANNEL is gone", thrown(x, 1, 0), 1);
        due("5 what is not told is as without", x.rule(3), 1);
        newLineForgets();
    }

    private static void newLineForgets() {
        QuietLine x = lineOf("way pairs;longest 9;pairs 9;check none;size 1;channel 8");
        sent(x, 0, 1, 2, 3);
        sent(x, 0, 4, 5);
        x.put(5);
        sent(x, 0, 6, 7);
        x.put(1);
        x.read(4);
        x.lose(0);
        x.read(600);
        onLine(x, 2, 38, 0);
        x.read(600);
        dueChannel("5 before", x, 0, 2, 8, 1, 1, 6, 7, 1, 2, 1, 1, 0, 0);
        text(x, "channel 3");
        x.line();
        dueChannel("5 all is gone", x, 0, 3, 3, 0, 0, 0, 0, 0, 0, 0, 0, 0, 0);
        due("5 way without", x.rule(0), 0);
        due("5 longest without", x.rule(1), 20);
        due("5 pairs without", x.rule(2), 10);
        due("5 size without", x.rule(4), 16);
        sent(x, 0, 9);
        x.put(1);
        dueLine("5 nothing of the other one's message", x, 4, 48, 9, 57, 0);
        x.read(600);
        due("5 nor of what was THERE", x.take(0), 1);
        due("5 nor of its bytes", x.hand(0), 9);
        due("5 nor of its FRAMES", x.channel(0, 0), 3);
    }

    private static void promise6() {
        QuietLine x = lineOf("channel 5");
        int[] without = {0, 20, 10, 1, 16, 1, 0, 0, 0, 0, NONE, 20};
        for (int k = 0; k < 12; k++) {
            due("6 without: rule(" + k + ")", x.rule(k), without[k]);
        }
        due("6 no such what", x.rule(12), HIDDEN);
        due("6 no such what", x.rule(-1), HIDDEN);
        due("6 no LINE", new QuietLine().rule(1), HIDDEN);
        x = lineOf("way reduced;longest 7;pairs 3;check crc;size 60;channel 1;channel 2;channel 3;channel 4");
        int[] told = {2, 7, 3, 2, 60, 4, 0, 0, 0, 0, NONE, 62 + 9 + 1};
        for (int k = 0; k < 12; k++) {
            due("6 told: rule(" + k + ")", x.rule(k), told[k]);
        }
        due("6 way pairs", lineOf("way pairs;channel 1").rule(0), 1);
        due("6 check none", lineOf("check none;channel 1").rule(3), 0);
        due("6 most bytes without a CHECK", lineOf("check none;size 19;channel 1").rule(11), 22);
        due("6 most bytes with two blocks", lineOf("check none;size 20;channel 1").rule(11), 24);
        onLine(x, 5, 0, 0, 6, 7, 0, 8);
        due("6 bytes on the LINE", x.rule(6), 7);
        due("6 FRAMES: ended by a MARK, not empty", x.rule(7), 2);
        x.read(5);
        due("6 bytes the reader has", x.rule(8), 2);
        due("6 EVENTS in all", x.rule(9), 1);
        due("6 FRAMES behind what the reader has", x.rule(7), 0);
        x.read(2);
        due("6 behind the MARK", x.rule(8), 1);
    }

    private static void promise7() {
        QuietLine x = new QuietLine();
        due("7 no LINE", x.send(7), NONE);
        dueStatus("7 no LINE", x, 1, 0, 0, 0);
        x = lineOf("channel 1;channel 1");
        tape(x, row(121));
        due("7 no such CHANNEL", x.send(2), NONE);
        due("7 no such CHANNEL", x.send(-1), NONE);
        dueStatus("7 first no such CHANNEL", x, 0, 2, 0, 0);
        due("7 more than 120", x.send(0), NONE);
        dueStatus("7 more than 120", x, 0, 2, 1, 0);
        due("7 the TAPE stays", x.count(0), 121);
        x.end(120);
        due("7 120", x.send(0), 1);
        due("7 the TAPE is empty", x.count(0), 0);
        due("7 none", x.send(0), 2);
        for (int k = 3; k <= 8; k++) {
            due("7 how many WAIT", x.send(0), k);
        }
        due("7 it is an ACT", x.count(1), 8);
        tape(x, 1, 2);
        due("7 a ninth", x.send(0), NONE);
        dueStatus("7 full", x, 0, 2, 1, 1);
        due("7 the TAPE stays", x.count(0), 2);
        tape(x, row(121));
        due("7 of several the first", x.send(0), NONE);
        dueStatus("7 of several", x, 0, 2, 2, 1);
        x.end(3);
        due("7 another CHANNEL has room", x.send(1), 1);
        due("7 bytes that WAIT", x.most(4), 123);
        x.put(1);
        due("7 the message WAITS till all is put", x.channel(1, 2) + x.channel(0, 2), 9);
    }

    private static void promise8() {
        QuietLine x = new QuietLine();
        due("8 no LINE", x.put(0), NONE);
        dueStatus("8 no LINE", x, 1, 0, 0, 0);
        x = lineOf("check none;size 2;channel 3;channel 3;channel 2");
        due("8 n 0", x.put(0), NONE);
        due("8 n 61", x.put(61), NONE);
        dueStatus("8 out of bounds", x, 0, 0, 2, 0);
        due("8 nothing WAITS", x.put(60), 0);
        due("8 no ACT", x.count(1), 0);
        sent(x, 0, 1, 2, 3, 4, 5);
        sent(x, 1);
        sent(x, 1, 6, 7);
        sent(x, 2, 8);
        due("8 one", x.put(1), 1);
        dueLine("8 of several first the first", x, 4, 32, 1, 2, 0);
        due("8 picked", x.rule(10), 0);
        due("8 most CREDITS", x.most(1), 1);
        due("8 one", x.put(1), 1);
        due("8 picked", x.rule(10), 1);
        due("8 all have two: behind the one picked last", x.most(1), 2);
        due("8 all", x.put(60), 4);
        dueLine("8 the others", x, 4, 32, 1, 2, 0, 2, 112, 0, 3, 176, 8, 0, 4, 1, 3, 4, 0, 4, 113, 6, 7, 0, 3, 18, 5, 0);
        dueChannel("8 CREDITS are gone", x, 0, 0, 3, 0, 0, 3);
        dueChannel("8 CREDITS", x, 1, 1, 3, 0, 0, 2);
        due("8 none picked", x.most(1), NONE);
        sent(x, 0, 1);
        due("8 no CREDIT", x.put(5), 0);

        x = lineOf("check crc;size 9;channel 1");
        sent(x, 0, 49, 50, 51, 52, 53, 54, 55, 56, 57);
        x.put(1);
        int crc = crcOf(48, 49, 50, 51, 52, 53, 54, 55, 56, 57);
        dueLine("8 crc", x, 12, 48, 49, 50, 51, 52, 53, 54, 55, 56, 57, crc, 0);
        x = lineOf("size 3;channel 1");
        sent(x, 0, 200, 100, 0);
        x.put(1);
        dueLine("8 sum modulo 256", x, 4, 48, 200, 100, 2, 92, 0);
        x = lineOf("check crc;channel 1;channel 1;channel 1");
        onLine(x, 3, 128, 137, 0);
        due("8 crc of 128, by the table", crcOf(128), 137);
        due("8 crc of 128", x.frame(0, 2), 0);
        numbersGoRound();
        noRoom();
    }

    /** By a table of remainders, other than the class does it. */
    private static int crcOf(int... bytes) {
        int[] table = new int[256];
        for (int i = 0; i < 256; i++) {
            int polynomial = i << 8;
            for (int bit = 15; bit >= 8; bit--) {
                if ((polynomial >> bit & 1) == 1) {
                    polynomial ^= 0x107 << (bit - 8);
                }
            }
            table[i] = polynomial;
        }
        int crc = 0;
        for (int v : bytes) {
            crc = table[crc ^ v];
        }
        return crc;
    }

    private static void numbersGoRound() {
        QuietLine x = lineOf("check none;size 1;channel 8");
        for (int k = 0; k < 20; k++) {
            due("8 NUMBER " + k, x.channel(0, 4), k % 16);
            sent(x, 0, 9);
            x.put(1);
            due("8 HEAD " + k, x.byteAt(1 + 4 * k), 48 + k % 16 == 0 ? 1 : 48 + k % 16);
            x.renew(0);
        }
        due("8 FRAMES", x.rule(7), 20);
        due("8 all come", x.read(600), 20);
        due("8 nothing is LOST", x.channel(0, 6), 0);
        due("8 eight are THERE", x.channel(0, 8), 8);
        due("8 the others are TORN", x.channel(0, 7), 12);
    }

    private static void noRoom() {
        QuietLine x = lineOf("check none;size 60;channel 8;channel 8");
        for (int k = 0; k < 5; k++) {
            sent(x, 0, row(120));
        }
        due("8 nine FRAMES of 65", x.put(8), 8);
        due("8 bytes", x.rule(6), 8 * 66);
        x.renew(0);
        due("8 one more", x.put(60), 1);
        due("8 594", x.rule(6), 594);
        due("8 the FRAME has no room", x.put(60), 0);
        sent(x, 1, 1);
        int acts = x.count(1);
        due("8 the first one's CHANNEL is picked", x.most(1), 1);
        due("8 a short one has", x.put(60), 1);
        due("8 598", x.rule(6), 598);
        due("8 picked last", x.rule(10), 1);
        x.renew(1);
        sent(x, 1);
        due("8 CREDITS 8 and 7", x.most(1), 1);
        due("8 no room for three", x.put(1), 0);
        due("8 not picked", x.most(1), 1);
        due("8 ACTS", x.count(1), Math.min(12, acts + 3));
        x.lose(0);
        due("8 room for three, and none behind", x.put(60), 1);
        due("8 600", x.rule(6), 600);
        due("8 insert: full", x.insert(0, 5), NONE);
    }

    private static void promise9() {
        due("9 no LINE", new QuietLine().byteAt(0), NONE);
        QuietLine x = lineOf("channel 1");
        due("9 none", x.byteAt(0), NONE);
        onLine(x, 255, 0);
        due("9 the first", x.byteAt(0), 255);
        due("9 the last", x.byteAt(1), 0);
        due("9 behind", x.byteAt(2), NONE);
        due("9 ahead", x.byteAt(-1), NONE);
        due("9 far", x.byteAt(Integer.MAX_VALUE), NONE);
        due("9 far", x.byteAt(Integer.MIN_VALUE), NONE);
    }

    private static void promise10() {
        QuietLine x = new QuietLine();
        due("10 no LINE", x.flip(0, 0), NONE);
        dueStatus("10 no LINE", x, 1, 0, 0, 0);
        x = lineOf("channel 1");
        due("10 no such byte", x.flip(0, 300), NONE);
        dueStatus("10 no such byte", x, 0, 1, 0, 0);
        onLine(x, 12);
        due("10 v 0", x.flip(0, 0), NONE);
        due("10 v 256", x.flip(0, 256), NONE);
        due("10 v below 0", x.flip(0, -1), NONE);
        due("10 byte -1", x.flip(-1, 1), NONE);
        dueStatus("10", x, 0, 2, 3, 0);
        due("10 flip", x.flip(0, 10), 6);
        due("10 it is so", x.byteAt(0), 6);
        due("10 to 0", x.flip(0, 6), 0);
        due("10 to 255", x.flip(0, 255), 255);
        due("10 ACTS", x.count(1), 4);
    }

    private static void promise11() {
        QuietLine x = new QuietLine();
        due("11 no LINE", x.lose(0), NONE);
        dueStatus("11 no LINE", x, 1, 0, 0, 0);
        x = lineOf("channel 1");
        due("11 no such byte", x.lose(0), NONE);
        onLine(x, 1, 2, 3);
        due("11 no such byte", x.lose(3), NONE);
        due("11 no such byte", x.lose(-1), NONE);
        dueStatus("11", x, 0, 3, 0, 0);
        due("11 the middle", x.lose(1), 2);
        dueLine("11", x, 1, 3);
        due("11 the last", x.lose(1), 3);
        due("11 the first", x.lose(0), 1);
        dueLine("11", x);
        due("11 ACTS", x.count(1), 6);
    }

    private static void promise12() {
        QuietLine x = new QuietLine();
        due("12 no LINE", x.insert(1, 256), NONE);
        dueStatus("12 no LINE", x, 1, 0, 0, 0);
        x = lineOf("channel 1");
        due("12 no such place", x.insert(1, 256), NONE);
        due("12 no such place", x.insert(-1, 1), NONE);
        dueStatus("12 place first", x, 0, 2, 0, 0);
        due("12 v", x.insert(0, 256), NONE);
        due("12 v", x.insert(0, -1), NONE);
        dueStatus("12 v", x, 0, 2, 2, 0);
        due("12 at the end", x.insert(0, 255), 1);
        due("12 at the end", x.insert(1, 0), 2);
        due("12 ahead", x.insert(0, 7), 3);
        due("12 between", x.insert(1, 8), 4);
        dueLine("12", x, 7, 8, 255, 0);
        due("12 ACTS", x.count(1), 4);
        for (int k = 4; k < 600; k++) {
            x.insert(2, 1);
        }
        due("12 there are 600", x.rule(6), 600);
        due("12 full", x.insert(600, 1), NONE);
        dueStatus("12 full", x, 0, 2, 2, 1);
        due("12 of several the first", x.insert(601, 256), NONE);
        due("12 of several the first", x.insert(600, 256), NONE);
        dueStatus("12 of several the first", x, 0, 3, 3, 1);
        due("12 ACTS", x.count(1), 12);
    }

    private static void promise13() {
        QuietLine x = new QuietLine();
        due("13 no LINE", x.noise(0, 1), NONE);
        dueStatus("13 no LINE", x, 1, 0, 0, 0);
        x = lineOf("channel 1");
        due("13 n", x.noise(0, 1), NONE);
        due("13 n", x.noise(41, 1), NONE);
        dueStatus("13", x, 0, 0, 2, 0);
        long seed = seedFor(0);
        due("13 flip: no bytes", x.noise(1, seed), 0);
        due("13 lose: no bytes", x.noise(1, seedFor(1)), 0);
        due("13 no ACT", x.count(1), 0);
        seed = seedFor(2);
        due("13 put in", x.noise(1, seed), 1);
        putInAtTheEnd();
        dueLine("13 put in", x, draw(seed, 3, 255) + 1);
        due("13 one ACT", x.count(1), 1);
        onLine(x, 10, 20, 30, 40);
        seed = seedFor(0);
        int at = draw(seed, 2, 5);
        int was = x.byteAt(at);
        due("13 flip", x.noise(1, seed), 1);
        due("13 flip: where and what", x.byteAt(at), was ^ (draw(seed, 3, 255) + 1));
        seed = seedFor(1);
        at = draw(seed, 2, 5);
        int behind = x.byteAt(at + 1);
        due("13 lose", x.noise(1, seed), 1);
        due("13 lose: where", x.byteAt(at), behind);
        due("13 lose: one fewer", x.rule(6), 4);
        for (int k = 0; k < 40; k++) {
            x.insert(0, 3);
        }
        due("13 forty", x.noise(40, 5), 40);
        while (x.rule(6) < 600) {
            x.insert(0, 3);
        }
        due("13 a full LINE", x.noise(1, seedFor(2)), 0);
        due("13 the one draw is the next one's", x.noise(2, seedFor(2, 1)), 1);
        due("13 lost", x.rule(6), 599);
    }

    private static void putInAtTheEnd() {
        long seed = 0;
        while (draw(seed, 1, 3) != 2 || draw(seed, 2, 4) != 3) {
            seed++;
        }
        QuietLine x = lineOf("channel 1");
        onLine(x, 1, 2, 3);
        due("13 put in", x.noise(1, seed), 1);
        dueLine("13 put in at the end", x, 1, 2, 3, draw(seed, 3, 255) + 1);
    }

    /** A seed whose first draws of 3 (none else between) are these. */
    private static long seedFor(int... sorts) {
        for (long seed = 0; ; seed++) {
            boolean fits = true;
            for (int k = 0; k < sorts.length; k++) {
                fits &= draw(seed, k + 1, 3) == sorts[k];
            }
            if (fits) {
                return seed;
            }
        }
    }

    /** The n-th draw of a seed, by numbers without bounds. */
    private static int draw(long seed, int n, int m) {
        java.math.BigInteger two64 = java.math.BigInteger.ONE.shiftLeft(64);
        java.math.BigInteger state = java.math.BigInteger.valueOf(seed).mod(two64);
        for (int k = 0; k < n; k++) {
            state = state.multiply(new java.math.BigInteger("6364136223846793005"))
                    .add(new java.math.BigInteger("1442695040888963407")).mod(two64);
        }
        return state.shiftRight(33).mod(java.math.BigInteger.valueOf(m)).intValue();
    }

    private static void promise14() {
        QuietLine x = new QuietLine();
        due("14 no LINE", x.read(0), NONE);
        dueStatus("14 no LINE", x, 1, 0, 0, 0);
        x = lineOf("check sum;longest 5;size 3;channel 8;channel 8");
        due("14 n", x.read(0), NONE);
        due("14 n", x.read(601), NONE);
        dueStatus("14", x, 0, 0, 2, 0);
        due("14 nothing there", x.read(600), 0);
        due("14 no ACT", x.count(1), 0);
        onLine(x, 0, 0);
        due("14 MARKS alone", x.read(600), 0);
        due("14 an ACT", x.count(1), 3);
        onLine(x, 7, 1, 1, 1, 1, 1, 1, 0);
        due("14 BROKEN", x.read(600), 1);
        dueEvent("14 BROKEN", x, 2, NONE, 7, NONE, NONE);
        onLine(x, 2, 48, 0);
        due("14 BAD: too few", x.read(600), 1);
        dueEvent("14 BAD: too few", x, 3, NONE, 2, NONE, NONE);
        onLine(x, 3, 48, 49, 0);
        due("14 BAD: CHECK", x.read(600), 1);
        dueEvent("14 BAD: CHECK", x, 3, NONE, 3, NONE, NONE);
        onLine(x, 3, 176, 176, 0);
        due("14 STRANGE: CHANNEL", x.read(600), 1);
        dueEvent("14 STRANGE: CHANNEL", x, 4, 176, 3, 0, 2);
        onLine(x, 6, 48, 1, 1, 1, 1, 2, 52, 0);
        due("14 STRANGE: four bytes", x.read(600), 1);
        dueEvent("14 STRANGE: four bytes", x, 4, 48, 8, 4, 0);
        dueChannel("14 nothing came to a CHANNEL", x, 0, 8, 8, 0, 0, 0, 0, 0, 0, 0, 0, 0, 0);
        onLine(x, 4, 32, 7, 39, 0);
        due("14 a PART", x.read(600), 1);
        dueEvent("14 a PART", x, 0, 32, 4, 1, 0);
        dueChannel("14 a PART", x, 0, 8, 8, 0, 0, 0, 1, 0, 0, 0, 1, 1, 0);
        onLine(x, 4, 17, 8, 25, 0);
        due("14 byte by byte", x.read(4), 0);
        due("14 the MARK", x.read(1), 1);
        dueEvent("14 the LAST", x, 1, 17, 4, 1, 0);
        dueChannel("14 the LAST", x, 0, 8, 8, 0, 0, 0, 2, 0, 0, 1, 0, 0, 0);
        readerTears();
        readerOverflows();
        overflowIsKept();
        readerLimits();
    }

    private static void readerTears() {
        QuietLine x = lineOf("check none;size 60;channel 8;channel 8");
        onLine(x, 2, 5, 0);
        x.read(3);
        dueEvent("14 SKIPPED", x, 5, 5, 2, 0, 0);
        dueChannel("14 five LOST, nothing TORN", x, 0, 8, 8, 0, 0, 0, 6, 5, 0);
        onLine(x, 2, 38, 0, 2, 39, 0);
        due("14 a FIRST one behind a FIRST one", x.read(6), 2);
        dueChannel("14 TORN", x, 0, 8, 8, 0, 0, 0, 8, 5, 1, 0, 1, 0);
        onLine(x, 2, 41, 0);
        x.read(3);
        dueChannel("14 one LOST, TORN once", x, 0, 8, 8, 0, 0, 0, 10, 6, 2, 0, 1, 0);
        onLine(x, 2, 11, 0);
        x.read(3);
        due("14 SKIPPED: TORN by the one that is LOST", x.event(0, 0), 5);
        dueChannel("14 TORN", x, 0, 8, 8, 0, 0, 0, 12, 7, 3, 0, 0, 0);
        onLine(x, 2, 11, 0);
        x.read(3);
        dueChannel("14 fifteen ahead", x, 0, 8, 8, 0, 0, 0, 12, 22, 3, 0, 0, 0);
        onLine(x, 1, 1, 0);
        x.read(3);
        due("14 HEAD 0", x.event(0, 1), 0);
        dueChannel("14 the NUMBER behind 15 is 0", x, 1, 8, 8, 0, 0, 0, 0, 0, 0);
        dueChannel("14 four ahead", x, 0, 8, 8, 0, 0, 0, 1, 26, 3);
    }

    private static void readerOverflows() {
        QuietLine x = lineOf("way pairs;check none;size 60;longest 60;channel 8");
        for (int k = 0; k < 200; k++) {
            x.insert(0, 1);
        }
        x.insert(200, 0);
        due("14 200 bytes", x.frame(0, 2), 4);
        due("14 200 bytes", x.read(600), 1);
        dueEvent("14 200 ahead of a MARK", x, 4, 0, 200, 198, 0);
        for (int k = 0; k < 201; k++) {
            x.insert(0, 1);
        }
        x.insert(201, 0);
        due("14 201 on the LINE", x.frame(0, 1), 201);
        due("14 201 are BROKEN by themselves", x.frame(0, 2), 2);
        due("14 201 are not whole", x.blind(0), -2);
        due("14 read up to the MARK", x.read(201), 0);
        due("14 the later ones are left out", x.rule(8), 200);
        due("14 the MARK", x.read(1), 1);
        dueEvent("14 201", x, 2, NONE, 200, NONE, NONE);
        due("14 nothing is left", x.rule(8), 0);
        onLine(x, 2, 48, 0);
        x.read(3);
        dueEvent("14 the next one is as ever", x, 1, 48, 2, 0, 0);
    }

    private static void overflowIsKept() {
        QuietLine x = lineOf("way pairs;check none;size 60;longest 60;channel 8");
        for (int k = 0; k < 201; k++) {
            x.insert(0, 1);
        }
        x.insert(201, 0);
        x.read(201);
        x.image();
        x.read(1);
        due("33 too many: BROKEN", x.event(0, 0), 2);
        x.back();
        x.read(1);
        due("33 the reader as it was: BROKEN again", x.event(0, 0), 2);
        x.back();
        text(x, "check none;channel 8");
        x.line();
        onLine(x, 2, 48, 0);
        x.read(3);
        due("5 the reader of another LINE", x.event(0, 0), 1);

        x = lineOf("way pairs;check none;size 60;longest 60;channel 8");
        for (int k = 0; k < 202; k++) {
            x.insert(0, 1);
        }
        x.read(200);
        x.read(1);
        x.undo();
        x.lose(0);
        x.lose(0);
        x.insert(0, 0);
        x.read(1);
        dueEvent("31 the reader as it was: 200 alone", x, 4, 0, 200, 198, 0);
    }

    private static void readerLimits() {
        QuietLine x = lineOf("check none;size 60;longest 60;channel 8");
        sent(x, 0, row(120));
        x.put(2);
        int lastFlag = 16;
        due("14 the second HEAD", x.byteAt(65), 17);
        x.flip(65, lastFlag);
        x.read(600);
        dueChannel("14 120 bytes so far", x, 0, 6, 8, 0, 0, 2, 2, 0, 0, 0, 2, 120, 0);
        onLine(x, 2, 18, 0);
        due("14 no byte more is fine", x.read(3), 1);
        dueEvent("14 no byte more", x, 1, 18, 2, 0, 0);
        x.undo();
        onLine(x, 0, 3, 18, 9, 0);
        x.lose(0);
        x.lose(0);
        x.lose(0);
        x.read(600);
        dueEvent("14 more than 120", x, 5, 18, 3, 1, 0);
        dueChannel("14 it is TORN", x, 0, 6, 8, 0, 0, 2, 3, 0, 1, 0, 0, 0, 0);

        x = lineOf("check none;channel 8");
        for (int k = 0; k < 9; k++) {
            onLine(x, 2, 48 + k, 0);
        }
        due("14 nine messages", x.read(600), 9);
        due("14 the ninth", x.event(0, 0), 6);
        due("14 the eighth", x.event(1, 0), 1);
        dueChannel("14 eight THERE, one TORN", x, 0, 8, 8, 0, 0, 0, 9, 0, 1, 8, 0, 0, 0);
    }

    private static void promise15() {
        QuietLine x = new QuietLine();
        due("15 no LINE", x.take(9), NONE);
        dueStatus("15 no LINE", x, 1, 0, 0, 0);
        x = lineOf("check none;size 2;channel 3;channel 1");
        due("15 no such CHANNEL", x.take(2), NONE);
        due("15 no such CHANNEL", x.take(-1), NONE);
        due("15 none THERE", x.take(0), NONE);
        dueStatus("15", x, 0, 3, 0, 0);
        sent(x, 0, 1, 2, 3);
        sent(x, 0, 4);
        sent(x, 1);
        x.put(60);
        x.read(600);
        due("15 three CREDITS gone", x.channel(0, 0), 0);
        due("15 the first one", x.take(0), 3);
        due("15 its bytes", x.hand(2), 3);
        due("15 two came back", x.channel(0, 0), 2);
        x.renew(0);
        due("15 the next", x.take(0), 1);
        due("15 its byte", x.hand(0), 4);
        due("15 the other ones are gone", x.hand(1), NONE);
        due("15 no more than told", x.channel(0, 0), 3);
        due("15 none left", x.take(0), NONE);
        due("15 one without bytes", x.take(1), 0);
        due("15 nothing in the HAND", x.count(3), 0);
        due("15 TAKEN in all", x.channel(0, 11), 2);
        due("15 ACTS", x.count(1), 9);
    }

    private static void promise16() {
        due("16 no LINE", new QuietLine().hand(0), NONE);
        QuietLine x = lineOf("check none;channel 3");
        due("16 empty", x.hand(0), NONE);
        sent(x, 0, 0, 255);
        x.put(1);
        x.read(600);
        due("16 not before it is TAKEN", x.hand(0), NONE);
        x.take(0);
        due("16 first", x.hand(0), 0);
        due("16 second", x.hand(1), 255);
        due("16 behind", x.hand(2), NONE);
        due("16 ahead", x.hand(-1), NONE);
    }

    private static void promise17() {
        QuietLine x = new QuietLine();
        due("17 no LINE", x.renew(0), NONE);
        dueStatus("17 no LINE", x, 1, 0, 0, 0);
        x = lineOf("channel 3");
        due("17 no such CHANNEL", x.renew(1), NONE);
        due("17 no such CHANNEL", x.renew(-1), NONE);
        due("17 it has all", x.renew(0), NONE);
        dueStatus("17", x, 0, 2, 1, 0);
        sent(x, 0);
        sent(x, 0);
        x.put(2);
        due("17 one left", x.channel(0, 0), 1);
        due("17 all", x.renew(0), 3);
        due("17 so it is", x.channel(0, 0), 3);
        due("17 ACTS", x.count(1), 4);
    }

    private static void promise18() {
        due("18 no LINE", thrown(new QuietLine(), 0, 0), 1);
        QuietLine x = lineOf("check none;size 2;channel 3;channel 5");
        due("18 no such CHANNEL", thrown(x, 2, 0), 1);
        due("18 no such CHANNEL", thrown(x, -1, 0), 1);
        due("18 no such what", thrown(x, 0, 12), 1);
        due("18 no such what", thrown(x, 1, -1), 1);
        dueChannel("18 at first", x, 1, 5, 5, 0, 0, 0, 0, 0, 0, 0, 0, 0, 0);
        sent(x, 0, 1, 2, 3, 4, 5);
        sent(x, 0, 6);
        x.put(2);
        dueChannel("18 two FRAMES put", x, 0, 1, 3, 2, 4, 2, 0, 0, 0, 0, 0, 0, 0);
        x.read(600);
        dueChannel("18 two FRAMES read", x, 0, 1, 3, 2, 4, 2, 2, 0, 0, 0, 2, 4, 0);
        x.put(1);
        x.read(600);
        dueChannel("18 it is THERE", x, 0, 0, 3, 1, 0, 3, 3, 0, 0, 1, 0, 0, 0);
        x.take(0);
        dueChannel("18 TAKEN", x, 0, 3, 3, 1, 0, 3, 3, 0, 0, 0, 0, 0, 1);
    }

    private static void promise19() {
        due("19 no LINE", new QuietLine().event(0, 0), NONE);
        QuietLine x = lineOf("check none;size 1;channel 8");
        for (int round = 0; round < 3; round++) {
            for (int k = 0; k < 15; k++) {
                onLine(x, 2, round == 0 ? 200 : 16 + k + 1, 0);
            }
            due("19 EVENTS", x.read(600), 15);
        }
        due("19 all that came", x.rule(9), 45);
        due("19 the latest", x.event(0, 1), 31);
        due("19 the one ahead", x.event(1, 1), 30);
        due("19 the last kept", x.event(39, 0), 4);
        due("19 the last kept", x.event(39, 1), 200);
        due("19 forty at most", x.event(40, 0), NONE);
        due("19 the first SKIPPED", x.event(29, 1), 17);
        due("19 the last STRANGE", x.event(30, 4), 3);
        due("19 i", x.event(-1, 0), NONE);
        due("19 i", x.event(Integer.MAX_VALUE, 0), NONE);
        due("19 i", x.event(Integer.MIN_VALUE, 0), NONE);
        due("19 what", x.event(0, 5), NONE);
        due("19 what", x.event(0, -1), NONE);
    }

    private static void stuffedTo(QuietLine x, int way, int[] bytes, int... stuffed) {
        tape(x, bytes);
        due("20 stuff(" + way + ")", x.stuff(way), stuffed.length);
        dueBox("20 stuff(" + way + ")", x, stuffed);
        due("20 the TAPE is empty", x.count(0), 0);
        tape(x, stuffed);
        due("21 unstuff(" + way + ") gives it back", x.unstuff(way), bytes.length);
        dueBox("21 unstuff(" + way + ") gives it back", x, bytes);
        due("21 the TAPE is empty", x.count(0), 0);
    }

    private static int[] b(int... bytes) {
        return bytes;
    }

    private static void promise20() {
        QuietLine x = lineOf("longest 3;pairs 2;channel 1");
        for (int way = 0; way < 3; way++) {
            stuffedTo(x, way, b(), 1);
            stuffedTo(x, way, b(0), 1, 1);
        }
        stuffedTo(x, 0, b(7), 2, 7);
        stuffedTo(x, 0, b(7, 8, 9), 4, 7, 8, 9);
        stuffedTo(x, 0, b(7, 8, 9, 0), 4, 7, 8, 9, 1, 1);
        stuffedTo(x, 0, b(7, 8, 9, 5), 4, 7, 8, 9, 2, 5);
        stuffedTo(x, 0, b(7, 8, 0), 3, 7, 8, 1);
        stuffedTo(x, 0, b(0, 0, 7, 0, 0), 1, 1, 2, 7, 1, 1);
        stuffedTo(x, 1, b(0, 0), 5);
        stuffedTo(x, 1, b(7, 0, 0), 6, 7);
        stuffedTo(x, 1, b(7, 8, 0, 0), 3, 7, 8, 1, 1);
        stuffedTo(x, 1, b(0, 0, 0), 5, 1, 1);
        stuffedTo(x, 1, b(0, 0, 0, 0), 5, 5);
        stuffedTo(x, 1, b(7, 0, 0, 9), 6, 7, 2, 9);
        stuffedTo(x, 1, b(7, 8, 9, 0, 0), 4, 7, 8, 9, 5);
        stuffedTo(x, 1, b(7, 0, 5), 2, 7, 2, 5);
        stuffedTo(x, 2, b(2), 2);
        stuffedTo(x, 2, b(1), 2, 1);
        stuffedTo(x, 2, b(7, 8, 4), 4, 7, 8);
        stuffedTo(x, 2, b(7, 8, 3), 4, 7, 8, 3);
        stuffedTo(x, 2, b(7, 8, 255), 255, 7, 8);
        stuffedTo(x, 2, b(7, 0), 2, 7, 1);
        stuffedTo(x, 2, b(0, 9), 1, 9);
        stuffedTo(x, 2, b(7, 8, 9, 6, 7), 4, 7, 8, 9, 7, 6);
        x = lineOf("longest 2;pairs 30;channel 1");
        stuffedTo(x, 1, b(1, 1, 0, 0), 3, 1, 1, 4);
        stuffedTo(x, 1, b(1, 0, 0), 5, 1);
        x = new QuietLine();
        tape(x, row(40));
        due("20 longest 20 without a LINE", x.stuff(0), 42);
        tape(x, 1, 1, 1, 1, 1, 1, 1, 1, 1, 0, 0);
        due("20 pairs 10 without a LINE", x.stuff(1), 10);
        due("20 its CODE", x.box(0), 31);
        tape(x, 1, 1, 1, 1, 1, 1, 1, 1, 1, 1, 0, 0);
        due("20 not of ten", x.stuff(1), 13);
        tape(x, row(300));
        due("20 a full TAPE", x.stuff(0), 315);
        tape(x, 1, 2);
        due("20 no such way", x.stuff(3), NONE);
        due("20 no such way", x.stuff(-1), NONE);
        due("20 the TAPE stays", x.count(0), 2);
        due("20 the BOX stays", x.count(2), 315);
    }

    private static void wrongAt(QuietLine x, int way, int place, int... bytes) {
        tape(x, bytes);
        int before = x.count(2);
        due("21 unstuff(" + way + ") WRONG", x.unstuff(way), -2 - place);
        due("21 the TAPE stays", x.count(0), bytes.length);
        due("21 the BOX stays", x.count(2), before);
    }

    private static void promise21() {
        QuietLine x = lineOf("longest 3;pairs 2;channel 1");
        tape(x, 1);
        x.stuff(0);
        for (int way = 0; way < 3; way++) {
            wrongAt(x, way, 0);
            wrongAt(x, way, 0, 0);
            wrongAt(x, way, 1, 1, 0);
            wrongAt(x, way, 2, 3, 9, 0);
            wrongAt(x, way, 1, 4, 0, 0, 0);
        }
        wrongAt(x, 0, 0, 5, 1, 1, 1, 1, 1);
        wrongAt(x, 0, 0, 3, 1);
        wrongAt(x, 0, 2, 2, 1, 2);
        wrongAt(x, 1, 0, 7, 1, 1, 1, 1, 1, 1);
        wrongAt(x, 1, 0, 6);
        wrongAt(x, 1, 1, 6, 0);
        wrongAt(x, 1, 0, 3, 1);
        wrongAt(x, 2, 0, 5, 1, 1, 1, 1);
        wrongAt(x, 2, 2, 5, 1, 0, 1);
        tape(x, 5, 1, 1, 1);
        due("21 reduced: fewer left than four", x.unstuff(2), 4);
        dueBox("21 reduced", x, 1, 1, 1, 5);
        tape(x, 1, 1);
        due("21 no such way", x.unstuff(3), NONE);
        due("21 no such way", x.unstuff(-1), NONE);
        due("21 the TAPE stays", x.count(0), 2);
        int[] pairs = new int[300];
        java.util.Arrays.fill(pairs, 5);
        tape(x, pairs);
        due("21 six hundred", x.unstuff(1), 600);
        due("21 the last of these", x.box(599), 0);
        due("21 none behind", x.box(600), NONE);
        x = new QuietLine();
        tape(x, 31, 1, 1, 1, 1, 1, 1, 1, 1, 1);
        due("21 without a LINE 20 and 10", x.unstuff(1), 11);
        tape(x, 32, 1, 1, 1, 1, 1, 1, 1, 1, 1, 1);
        due("21 not 32", x.unstuff(1), -2);
    }

    private static void promise22() {
        QuietLine x = new QuietLine();
        due("22 empty at first", x.box(0), NONE);
        tape(x, 255);
        x.stuff(0);
        due("22 first", x.box(0), 2);
        due("22 second", x.box(1), 255);
        due("22 behind", x.box(2), NONE);
        due("22 ahead", x.box(-1), NONE);
    }

    private static void shortestIs(QuietLine x, int way, int... bytes) {
        tape(x, bytes);
        due("23 shortest", x.shortest(), way);
        due("23 the TAPE stays", x.count(0), bytes.length);
    }

    private static void promise23() {
        QuietLine x = lineOf("longest 3;pairs 2;channel 1");
        tape(x, 9);
        x.stuff(0);
        shortestIs(x, 0);
        shortestIs(x, 0, 0);
        shortestIs(x, 1, 0, 0);
        shortestIs(x, 2, 9);
        shortestIs(x, 0, 1);
        shortestIs(x, 1, 0, 0, 9);
        shortestIs(x, 1, 0, 0, 0, 0, 9);
        shortestIs(x, 1, 0, 0, 1);
        dueBox("23 the BOX stays", x, 2, 9);
        shortestIs(x, 1, 5, 6, 0, 0, 0);
        shortestIs(x, 0, 5, 6, 0);
        x = new QuietLine();
        shortestIs(x, 1, 5, 6, 0, 0, 0);
        shortestIs(x, 1, 5, 0, 0);
    }

    private static void promise24() {
        QuietLine x = new QuietLine();
        due("24 0", x.bound(0), 1);
        due("24 1", x.bound(1), 2);
        due("24 40", x.bound(40), 42);
        due("24 41", x.bound(41), 44);
        due("24 -1", x.bound(-1), NONE);
        due("24 300", x.bound(300), 315);
        due("24 301", x.bound(301), NONE);
        x = lineOf("longest 2;channel 1");
        due("24 L 2, 0", x.bound(0), 1);
        due("24 L 2, 1", x.bound(1), 2);
        due("24 L 2, 3", x.bound(3), 5);
        due("24 L 2, 300", x.bound(300), 450);
        tape(x, row(300));
        due("24 it can be that long", x.stuff(0), 450);
    }

    private static void promise25() {
        due("25 no LINE", new QuietLine().frame(0, 0), NONE);
        QuietLine x = lineOf("longest 5;size 1;channel 8;channel 8");
        due("25 none", x.frame(0, 0), NONE);
        onLine(x, 0, 3, 118, 118, 0, 0, 9, 0, 2, 48, 0, 5, 200, 1, 2, 203, 0, 3, 1);
        int[][] due = {{1, 3, 0, 1, 6}, {6, 1, 2, NONE, NONE}, {8, 2, 3, NONE, NONE}, {11, 5, 4, 3, 8}};
        for (int k = 0; k < 4; k++) {
            for (int what = 0; what < 5; what++) {
                due("25 frame(" + k + ", " + what + ")", x.frame(k, what), due[k][what]);
            }
        }
        due("25 not ended by a MARK", x.frame(4, 0), NONE);
        due("25 k", x.frame(-1, 0), NONE);
        due("25 k", x.frame(Integer.MAX_VALUE, 0), NONE);
        due("25 what", x.frame(0, 5), NONE);
        due("25 what", x.frame(0, -1), NONE);
        x.read(2);
        due("25 behind what the reader has: begin", x.frame(0, 0), 0);
        due("25 behind what the reader has: bytes", x.frame(0, 1), 2);
        due("25 behind what the reader has: by itself", x.frame(0, 2), 2);
    }

    private static void promise26() {
        due("26 no LINE", new QuietLine().harm(0, 1), HIDDEN);
        QuietLine x = lineOf("longest 5;channel 8;channel 8");
        sent(x, 0, 7);
        sent(x, 1, 8);
        x.put(2);
        due("26 bytes", x.rule(6), 10);
        due("26 v 0", x.harm(0, 0), HIDDEN);
        due("26 v 256", x.harm(0, 256), HIDDEN);
        due("26 v -1", x.harm(0, -1), HIDDEN);
        due("26 no such byte", x.harm(10, 1), HIDDEN);
        due("26 no such byte", x.harm(-1, 1), HIDDEN);
        due("26 a byte of the first", x.harm(2, 1), 1);
        due("26 a MARK between", x.harm(4, 1), 2);
        due("26 the last MARK", x.harm(9, 1), 1);
        due("26 it becomes a MARK", x.harm(0, 4), 1);
        x.flip(2, 1);
        due("26 one more would be THERE", x.harm(2, 1), -1);
        due("26 nothing changed", x.rule(9), 0);
        due("26 nothing read", x.rule(6), 10);
        x.flip(2, 1);
        x.read(3);
        due("26 with what the reader has", x.harm(0, 1), 1);
        due("26 the reader stays", x.rule(8), 3);
    }

    private static void promise27() {
        due("27 no LINE", new QuietLine().blind(0), NONE);
        QuietLine x = lineOf("longest 5;channel 8;channel 8");
        due("27 none", x.blind(0), NONE);
        sent(x, 0, 7);
        x.put(1);
        due("27 sum sees each byte", x.blind(0), 0);
        due("27 k", x.blind(1), NONE);
        due("27 k", x.blind(-1), NONE);
        x.flip(1, 1);
        due("27 it isn't whole", x.blind(0), -2);
        x = lineOf("check none;longest 5;channel 8;channel 8;channel 8");
        sent(x, 0, 7);
        x.put(1);
        // the CODE 3: none of 1, 2, 4 .. 6 fits; the HEAD: three CHANNELS' but 0 and itself; the byte: all but 0 and itself
        due("27 without a CHECK", x.blind(0), 0 + (3 * 64 - 2) + 254);
        x = lineOf("check none;longest 5;size 1;channel 8");
        onLine(x, 2, 48, 1, 0);
        due("27 a PART of one 0", x.frame(0, 2), 0);
        // CODES 2, 1: 3 for the 2 makes HEAD and a byte 1 of it; 1, 4, 5, 6 do not; the 1 for the last CODE alone
        due("27 a CODE that nobody sees", x.blind(0), 1 + 62 + 0);
        x = lineOf("way reduced;check none;longest 5;size 1;channel 8");
        onLine(x, 48, 0);
        // c itself: 1 has no bytes: BAD; 2 .. 63 but 48 are HEADS of CHANNEL 0
        due("27 reduced", x.blind(0), 61);
    }

    private static void promise28() {
        due("28 no LINE", new QuietLine().cost(0, 0), NONE);
        QuietLine x = lineOf("size 7;longest 3;channel 1");
        due("28 n", x.cost(-1, 0), NONE);
        due("28 n", x.cost(121, 0), NONE);
        due("28 what", x.cost(1, 2), NONE);
        due("28 what", x.cost(1, -1), NONE);
        due("28 0 bytes", x.cost(0, 0), 1);
        due("28 0 bytes", x.cost(0, 1), 2 + 1 + 1);
        due("28 7 bytes", x.cost(7, 0), 1);
        due("28 7 bytes", x.cost(7, 1), 9 + 3 + 1);
        due("28 8 bytes", x.cost(8, 0), 2);
        due("28 8 bytes", x.cost(8, 1), 13 + 3 + 1 + 1);
        due("28 120 bytes", x.cost(120, 0), 18);
        due("28 120 bytes", x.cost(120, 1), 17 * 13 + 3 + 1 + 1);
        due("28 without a CHECK", lineOf("check none;size 1;channel 1").cost(120, 1), 120 * 4);
    }

    private static void promise29() {
        due("29 no LINE", new QuietLine().share(0, 0), NONE);
        QuietLine x = lineOf("longest 5;check none;size 2;channel 8;channel 8");
        due("29 CHANNEL", x.share(2, 0), NONE);
        due("29 CHANNEL", x.share(-1, 0), NONE);
        due("29 what", x.share(0, 4), NONE);
        due("29 what", x.share(0, -1), NONE);
        for (int what = 0; what < 4; what++) {
            due("29 none", x.share(0, what), 0);
        }
        onLine(x, 2, 5, 0, 3, 70, 9, 0, 4, 7, 1, 1, 0, 9, 9, 0, 5, 9, 1, 1, 1, 0, 0, 2, 7, 0, 2, 8, 0, 2, 9);
        // of CHANNEL 0: NUMBERS 5, 7, (9 is STRANGE), 7, 8
        due("29 how many", x.share(0, 0), 4);
        due("29 bytes with MARKS", x.share(0, 1), 3 + 5 + 3 + 3);
        due("29 NUMBERS left out", x.share(0, 2), 1 + 15 + 0);
        due("29 bytes of PARTS", x.share(0, 3), 2);
        due("29 the other", x.share(1, 0), 1);
        due("29 the other", x.share(1, 1), 4);
        due("29 the other", x.share(1, 2), 0);
        due("29 the other", x.share(1, 3), 1);
    }

    private static void promise30() {
        due("30 no LINE", new QuietLine().flushed(0), NONE);
        QuietLine x = lineOf("check none;size 60;channel 8;channel 1");
        due("30 what", x.flushed(5), NONE);
        due("30 what", x.flushed(-1), NONE);
        for (int k = 0; k < 8; k++) {
            sent(x, 0, row(119));
        }
        sent(x, 1, row(61));
        due("30 as CREDITS allow: THERE", x.flushed(0), 4);
        due("30 WAIT still", x.flushed(3), 5);
        due("30 EVENTS", x.flushed(4), 9);
        due("30 nothing is LOST", x.flushed(1), 0);
        due("30 nothing is TORN", x.flushed(2), 0);
        due("30 nothing changed", x.rule(6) + x.rule(9), 0);
        x.put(8);
        x.renew(0);
        x.renew(1);
        due("30 eight put, eight more to put", x.flushed(0), 8);
        x.lose(66 + 1);
        due("30 one BROKEN: LOST", x.flushed(1), 1);
        due("30 one BROKEN: TORN", x.flushed(2), 1);
        due("30 one BROKEN: THERE", x.flushed(0), 7);
        while (x.rule(6) < 600) {
            x.insert(x.rule(6), 0);
        }
        due("30 the LINE is full at first", x.flushed(0), 7);
        x.read(70);
        due("30 EVENTS that would come", x.flushed(4), 16);
    }

    private static void promise31() {
        due("31 no LINE", new QuietLine().undo(), NONE);
        QuietLine x = lineOf("check none;size 2;channel 2;channel 1");
        due("31 none", x.undo(), NONE);
        sent(x, 0, 1, 2, 3);
        x.put(2);
        x.read(5);
        x.flip(0, 1);
        x.read(600);
        x.renew(0);
        due("31 ACTS", x.count(1), 6);
        due("31 renew", x.undo(), 5);
        due("31 CREDITS", x.channel(0, 0), 0);
        due("31 read", x.undo(), 4);
        due("31 EVENTS", x.rule(9), 1);
        due("31 the LINE", x.rule(6), 4);
        due("31 flip", x.undo(), 3);
        due("31 the byte", x.byteAt(0), 3);
        x.read(600);
        tape(x, 77);
        x.take(0);
        due("31 take", x.undo(), 4);
        due("31 THERE again", x.channel(0, 8), 1);
        due("31 CREDITS again", x.channel(0, 0), 0);
        due("31 TAKEN", x.channel(0, 11), 0);
        due("31 the HAND stays", x.hand(2), 3);
        due("31 the TAPE stays", x.count(0), 1);
        x.undo();
        due("31 read", x.undo(), 2);
        due("31 the reader", x.rule(8) + x.rule(9), 0);
        due("31 put", x.undo(), 1);
        due("31 picked last", x.rule(10), NONE);
        dueChannel("31 put", x, 0, 2, 2, 1, 0, 0);
        due("31 send", x.undo(), 0);
        due("31 nothing WAITS", x.channel(0, 2), 0);
        due("31 none left", x.undo(), NONE);
        due("31 no STATUS", x.status(0) + x.status(1) + x.status(2) + x.status(3), 0);
        for (int k = 0; k < 20; k++) {
            x.insert(0, k);
        }
        due("31 twelve", x.count(1), 12);
        for (int k = 11; k >= 0; k--) {
            due("31 undo", x.undo(), k);
        }
        due("31 eight are left", x.rule(6), 8);
        due("31 not more", x.undo(), NONE);
        undoBytes();
        for (int k = 0; k < 5; k++) {
            x.insert(0, 1);
        }
        x.undo();
        x.put(1);
        x.noise(1, 0);
        x.undo();
        due("31 in between", x.undo(), 3);
        due("31 in between", x.rule(6), 11);
    }

    private static void undoBytes() {
        QuietLine x = lineOf("channel 2");
        onLine(x, 1, 2, 3);
        x.lose(1);
        x.undo();
        dueLine("31 lose", x, 1, 2, 3);
        x.noise(5, 99);
        x.undo();
        dueLine("31 noise", x, 1, 2, 3);
        due("31 these alone", x.count(1), 3);
        x.flip(0, 7);
        x.insert(0, 9);
        x.undo();
        dueLine("31 insert", x, 6, 2, 3);
    }

    private static void promise32() {
        due("32 no LINE", new QuietLine().image(), NONE);
        QuietLine x = lineOf("channel 2");
        due("32 empty", x.image(), 0);
        onLine(x, 1, 2, 3);
        due("32 three", x.image(), 3);
        due("32 no ACT", x.count(1), 3);
        x.lose(0);
        due("32 instead of the one ahead", x.back(), 3);
    }

    private static void promise33() {
        QuietLine x = new QuietLine();
        due("33 no LINE", x.back(), NONE);
        x = lineOf("check none;size 1;channel 4");
        due("33 no IMAGE", x.back(), NONE);
        sent(x, 0, 1, 2, 3);
        sent(x, 0, 4);
        x.put(2);
        x.read(4);
        x.image();
        x.put(2);
        x.read(600);
        x.take(0);
        x.renew(0);
        due("33 bytes on the LINE", x.back(), 4);
        dueLine("33", x, 3, 1, 2, 0);
        dueChannel("33", x, 0, 2, 4, 2, 2, 2, 1, 0, 0, 0, 1, 1, 0);
        due("33 EVENTS", x.rule(9), 1);
        due("33 the latest EVENT", x.event(0, 1), 32);
        due("33 none ahead of it", x.event(1, 1), NONE);
        due("33 no ACT", x.count(1), 0);
        due("33 none UNDONE", x.undo(), NONE);
        due("33 the HAND stays", x.hand(2), 3);
        x.read(600);
        due("33 again", x.back(), 4);
        x.lose(0);
        x.read(600);
        x.put(2);
        x.read(600);
        due("33 LOST meanwhile", x.channel(0, 6), 1);
        x.back();
        due("33 LOST not", x.channel(0, 6), 0);
        x.put(2);
        x.read(600);
        x.take(0);
        x.take(0);
        due("33 bytes of what WAITED", x.hand(0), 4);
        due("33 CREDITS by FRAMES", x.channel(0, 0), 4);
        text(x, "channel 1");
        x.line();
        due("33 not of this LINE", x.back(), NONE);
    }

    private static void promise34() {
        QuietLine x = new QuietLine();
        due("34 what", x.status(4), NONE);
        due("34 what", x.status(-1), NONE);
        dueStatus("34", x, 0, 0, 0, 0);
        x.send(0);
        x.feed(0, 0, 0, 0, 0);
        x.line();
        x.stuff(9);
        x.unstuff(9);
        x.image();
        x.back();
        x.undo();
        x.frame(0, 0);
        x.harm(0, 0);
        x.cost(-1, 0);
        x.byteAt(5);
        dueStatus("34 these alone", x, 1, 0, 0, 0);
        text(x, "channel 1");
        x.line();
        dueStatus("34 it stays", x, 1, 0, 0, 0);
        x.put(0);
        x.image();
        x.insert(0, 1);
        x.take(0);
        x.undo();
        x.back();
        dueStatus("34 it stays as it is", x, 1, 1, 1, 0);
    }

    private static void promise35() {
        due("35 no LINE", new QuietLine().most(0), HIDDEN);
        QuietLine x = lineOf("check none;size 2;channel 2;channel 3;channel 3");
        due("35 what", x.most(6), HIDDEN);
        due("35 what", x.most(-1), HIDDEN);
        int[] first = {0, NONE, 0, 0, 0, NONE};
        for (int what = 0; what < 6; what++) {
            due("35 at first: most(" + what + ")", x.most(what), first[what]);
        }
        sent(x, 0, 1, 2, 3);
        due("35 picked", x.most(1), 0);
        due("35 bytes that WAIT", x.most(4), 3);
        sent(x, 2, 5);
        due("35 picked", x.most(1), 2);
        x.put(2);
        due("35 bytes that were put not", x.most(4), 1);
        due("35 longest FRAME", x.most(3), 4);
        due("35 greatest byte", x.most(5), 176);
        x.read(600);
        due("35 none there", x.most(3), 0);
        due("35 no byte", x.most(5), NONE);
        onLine(x, 2, 64 + 3, 0, 2, 128 + 4, 0, 9, 0, 1, 0, 2, 250, 0, 7);
        due("35 most(5)", x.most(5), 250);
        x.read(600);
        due("35 three LOST each: the lowest", x.most(0), 1);
        due("35 BROKEN and BAD", x.most(2), 2);
        onLine(x, 0, 2, 128 + 6, 0);
        x.read(600);
        due("35 most LOST", x.most(0), 2);
        due("35 BROKEN and BAD", x.most(2), 3);
        for (int k = 0; k < 39; k++) {
            onLine(x, 2, 255, 0);
        }
        x.read(600);
        due("35 of those kept", x.most(2), 0);
    }

    private static void promise36() {
        QuietLine x = lineOf("check none;channel 4");
        due("36 what", x.count(4), NONE);
        due("36 what", x.count(-1), NONE);
        tape(x, 1, 2, 3);
        due("36 TAPE", x.count(0), 3);
        x.send(0);
        due("36 TAPE", x.count(0), 0);
        due("36 ACTS", x.count(1), 1);
        x.put(1);
        x.read(600);
        x.take(0);
        due("36 HAND", x.count(3), 3);
        due("36 ACTS", x.count(1), 4);
        tape(x, 0, 0);
        x.stuff(0);
        due("36 BOX", x.count(2), 3);
    }

    public static void main(String[] args) {
        promise1();
        promise2();
        promise3();
        promise4();
        promise5();
        promise6();
        promise7();
        promise8();
        promise9();
        promise10();
        promise11();
        promise12();
        promise13();
        promise14();
        promise15();
        promise16();
        promise17();
        promise18();
        promise19();
        promise20();
        promise21();
        promise22();
        promise23();
        promise24();
        promise25();
        promise26();
        promise27();
        promise28();
        promise29();
        promise30();
        promise31();
        promise32();
        promise33();
        promise34();
        promise35();
        promise36();
        System.out.println("promises: " + asked + " answers, " + wrong + " of them wrong");
        if (wrong != 0) {
            System.exit(1);
        }
    }
}
