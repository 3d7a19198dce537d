/** The document's sections "Promise 1" to "Promise 36", sentence by sentence; what is due was worked out by hand. */
public final class CallsSentencesTest extends Sentences {
    private static final int MIN = Integer.MIN_VALUE;
    private static final int MAX = Integer.MAX_VALUE;

    /** A call that is refused: it answers so, this STATUS (NONE: none of them) is one more, nothing else changes. */
    private static void refused(String what, Bench b, java.util.function.ToIntFunction<QuietLine> call, int status) {
        String before = b.look();
        int[] counts = new int[4];
        for (int k = 0; k < 4; k++) {
            counts[k] = b.on().status(k) + (k == status ? 1 : 0);
        }
        due(what, call.applyAsInt(b.on()), NONE);
        due(what + ": STATUS", b.status(), counts[0] + " " + counts[1] + " " + counts[2] + " " + counts[3]);
        due(what + ": nothing else changes", b.look(), before);
    }

    /** A message on its way: two FRAMES put, one of them read, a third one to be put, some bytes on the TAPE. */
    private static Bench underway() {
        Bench b = Bench.of("check none;size 1;channel 4;channel 2");
        b.send(0, 1, 2, 3);
        b.on().put(2);
        b.on().read(4);
        b.tape(7, 8, 9);
        return b;
    }

    /** A LINE on which nothing is as at first: CHANNEL 0 counts some of all, the reader has a byte; no ACT to be UNDONE. */
    private static Bench rich() {
        Bench b = Bench.of("way pairs;longest 5;pairs 3;check none;size 1;channel 8;channel 8");
        b.heard(3, 48, 5, 0, 3, 49, 6, 0, 3, 50, 7, 0);
        b.on().take(0);
        b.heard(3, 37, 7, 0, 3, 38, 8, 0);
        b.send(0, 1, 2);
        b.on().put(1);
        b.send(1, 9);
        b.on().read(1);
        b.on().image();
        b.on().back();
        due("some of all", b.channel(0), "7 8 1 1 1 7 2 1 2 1 1 1");
        return b;
    }

    // ---- 1 .. 6

    private static void theTape() {
        section("Promise 1: A new object");
        sentence("No LINE.", () -> {
            Bench b = new Bench();
            due("rule", b.on().rule(5), HIDDEN);
            due("most", b.on().most(0), HIDDEN);
            due("image", b.on().image(), NONE);
            due("send", b.on().send(0), NONE);
            due("channel", b.throwsNoSuch(0, 0), true);
            due("TAPE, ACTS, BOX, HAND", b.on().count(0) + b.on().count(1) + b.on().count(2) + b.on().count(3), 0);
        });

        section("Promise 2: feed");
        sentence("Twenty bytes more come to the TAPE (of each number the highest first): how many it has.", () -> {
            Bench b = new Bench();
            due("twenty", b.on().feed(0x0b010203, 0x04050607, 0x0880ff0b, MIN + 0x0c0d0e, MAX), 20);
            b.on().end(11);
            due("its first eleven", b.on().unstuff(0), 10);
            due("the highest first", b.box(), "1 2 3 4 5 6 7 8 128 255");
            b.on().feed(0x15010101, -1, 0x7f80fe01, 0x02030405, 0x06070809);
            due("forty", b.on().feed(0x0a000000, 0, 0, 0, 0), 40);
            b.on().end(21);
            due("more come behind", b.on().unstuff(0), 20);
            due("all twenty", b.box(), "1 1 1 255 255 255 255 127 128 254 1 2 3 4 5 6 7 8 9 10");
        });
        sentence("NONE: more than 300.", () -> {
            Bench b = new Bench();
            for (int k = 1; k <= 15; k++) {
                due("up to 300", b.on().feed(1, 2, 3, 4, 5), 20 * k);
            }
            refused("320", b, x -> x.feed(1, 2, 3, 4, 5), NONE);
            b.on().end(281);
            refused("301", b, x -> x.feed(1, 2, 3, 4, 5), NONE);
            b.on().end(280);
            due("300", b.on().feed(1, 2, 3, 4, 5), 300);
        });

        section("Promise 3: end");
        sentence("The TAPE has its first n bytes alone.", () -> {
            Bench b = new Bench();
            due("0 of 0", b.on().end(0), true);
            b.on().feed(0x04010203, 0x05060708, 0, 0, 0);
            due("all", b.on().end(20), true);
            due("twenty", b.on().count(0), 20);
            due("four", b.on().end(4), true);
            due("four alone", b.on().count(0), 4);
            due("the first ones", b.on().unstuff(0), 3);
            due("the first ones", b.box(), "1 2 3");
            b.on().feed(1, 2, 3, 4, 5);
            due("none", b.on().end(0), true);
            due("none alone", b.on().count(0), 0);
        });
        sentence("False: n.", () -> {
            Bench b = new Bench();
            due("1 of 0", b.on().end(1), false);
            b.on().feed(1, 2, 3, 4, 5);
            for (int n : new int[] {-1, 21, MIN, MAX}) {
                due("end(" + n + ") of 20", b.on().end(n), false);
                due("the TAPE stays", b.on().count(0), 20);
            }
            b.on().end(7);
            due("8 of 7", b.on().end(8), false);
            due("7 still", b.on().count(0), 7);
        });

        section("Promise 4: fault");
        sentence("The FAULT of the TAPE as a LINE.", () -> {
            Bench b = new Bench();
            due("no TAPE", b.on().fault(), 0);
            b.text("channel 1;size 61");
            due("out of bounds", b.on().fault(), 15);
            due("asked again", b.on().fault(), 15);
            due("the TAPE stays", b.on().count(0), 17);
            b.on().end(9);
            due("without that", b.on().fault(), NONE);
        });
        sentence("NONE: none.", () -> {
            Bench b = underway();
            b.text("size 60;channel 8");
            String before = b.look();
            due("none", b.on().fault(), NONE);
            due("nothing changes", b.look(), before);
            due("the rules stay", b.on().rule(4), 1);
        });
    }

    private static void theLine() {
        section("Promise 5: line");
        sentence("The TAPE is the LINE, and empty then", () -> {
            Bench b = new Bench().text("size 9;channel 3;channel 5");
            due("line()", b.on().line(), 2);
            due("the TAPE", b.on().count(0), 0);
            due("rules", b.on().rule(4) + " " + b.on().channel(1, 0), "9 5");
            due("an empty TAPE is none", b.on().line(), NONE);
            due("it stays", b.on().rule(4), 9);
        });
        sentence("(all of another one is gone, but STATUS, BOX)", () -> {
            Bench b = rich();
            b.on().renew(1);
            b.tape(5);
            b.on().stuff(0);
            due("it has messages, ACTS, an IMAGE", b.on().put(1) + " " + b.on().image(), "1 7");
            b.text("channel 4");
            b.on().line();
            due("all", b.look(), "0 20 10 1 16 1 0 0 0 0 -1 20 0 -1 0 0 0 -1 0 0 2 0 "
                + "; 4 4 0 0 0 0 0 0 0 0 0 0; -1 -1 -1 -1 -1; 0 0 0 0 0");
            due("the other CHANNEL", b.throwsNoSuch(1, 0), true);
            due("the HAND", b.on().hand(0), NONE);
            due("the IMAGE", b.on().back(), NONE);
            due("ACTS", b.on().undo(), NONE);
            due("STATUS stays", b.status(), "0 0 1 0");
            due("BOX stays", b.box(), "2 5");
            b.on().send(0);
            b.on().put(1);
            due("what is put", b.wire(), "3 48 48 0");
            due("what is read", b.on().read(600) + " " + b.event(0), "1 1 48 3 0 0");
            b.send(0, Bench.sevens(17));
            b.on().put(2);
            b.on().read(600);
            due("what is TAKEN", b.on().take(0) + " " + b.on().channel(0, 0), "0 2");
            due("two FRAMES", b.on().take(0) + " " + b.on().channel(0, 0), "17 4");
            b = Bench.without(201);
            b.on().read(201);
            b.text("check none;channel 4");
            b.on().line();
            due("that the reader had too many", b.heard(2, 48, 0) + " " + b.event(0), "1 1 48 2 0 0");
        });
        sentence(": how many CHANNELS.", () -> {
            Bench b = new Bench();
            String text = "channel 1";
            for (int many = 1; many <= 4; many++) {
                b.text(text);
                due("line()", b.on().line(), many);
                text += ";channel 1";
            }
        });
        sentence("NONE: a FAULT (the TAPE, all stays).", () -> {
            Bench b = new Bench();
            due("no TAPE, no LINE", b.on().line(), NONE);
            due("no LINE still", b.on().rule(0), HIDDEN);
            b = underway();
            b.text("size 60;longest 3;channel 8;channel 9");
            refused("a FAULT", b, QuietLine::line, NONE);
            due("the TAPE", b.on().count(0), 37);
            due("its FAULT", b.on().fault(), 36);
            due("L stays", b.on().bound(21), 23);
            due("ACTS stay", b.on().undo(), 2);
        });
    }

    private static void rules() {
        section("Promise 6: rule");
        sentence("0 the way (0 plain, 1 pairs, 2 reduced), 1 longest, 2 pairs, 3 check (0 none, 1 sum, 2 crc), 4 size, 5"
            + " CHANNELS,", () -> {
                String[] ways = {"plain", "pairs", "reduced"};
                String[] checks = {"none", "sum", "crc"};
                int[] longest = {2, 31, 60};
                int[] pairs = {30, 1, 17};
                int[] sizes = {60, 1, 33};
                for (int k = 0; k < 3; k++) {
                    Bench b = Bench.of("way " + ways[k] + ";check " + checks[2 - k] + ";longest " + longest[k] + ";pairs "
                        + pairs[k] + ";size " + sizes[k] + ";channel 1".repeat(k + 2));
                    String told = "";
                    for (int what = 0; what < 6; what++) {
                        told += b.on().rule(what) + " ";
                    }
                    due("told", told, k + " " + longest[k] + " " + pairs[k] + " " + (2 - k) + " " + sizes[k] + " "
                        + (k + 2) + " ");
                }
            });
        sentence("6 bytes on the LINE, 7 FRAMES there,", () -> {
            Bench b = Bench.of("channel 8");
            due("none", b.on().rule(6) + " " + b.on().rule(7), "0 0");
            b.wired(0, 0);
            due("MARKS alone", b.on().rule(6) + " " + b.on().rule(7), "2 0");
            b.wired(5);
            due("not ended by a MARK", b.on().rule(6) + " " + b.on().rule(7), "3 0");
            b.wired(0);
            due("ended by one", b.on().rule(6) + " " + b.on().rule(7), "4 1");
            b.wired(0, 6, 7, 0, 8);
            due("two", b.on().rule(6) + " " + b.on().rule(7), "9 2");
            b.on().read(3);
            due("the reader has all of the first but its MARK", b.on().rule(6) + " " + b.on().rule(7), "6 1");
            b = Bench.filled(600);
            due("full", b.on().rule(6) + " " + b.on().rule(7), "600 10");
        });
        sentence("8 bytes the reader has behind the latest MARK,", () -> {
            Bench b = Bench.of("channel 8").wired(5, 6, 0, 7);
            due("none", b.on().rule(8), 0);
            b.on().read(1);
            due("one", b.on().rule(8), 1);
            b.on().read(1);
            due("two", b.on().rule(8), 2);
            b.on().read(1);
            due("a MARK", b.on().rule(8), 0);
            b.on().read(1);
            due("behind it", b.on().rule(8), 1);
            b = Bench.without(255);
            b.on().read(199);
            due("199", b.on().rule(8), 199);
            b.on().read(1);
            due("200", b.on().rule(8), 200);
            b.on().read(55);
            due("later ones are left out", b.on().rule(8), 200);
            b.on().read(1);
            due("a MARK", b.on().rule(8), 0);
        });
        sentence("9 EVENTS that came in all,", () -> {
            Bench b = Bench.of("check none;channel 8");
            due("none", b.on().rule(9), 0);
            for (int k = 0; k < 42; k++) {
                b.wired(9, 0);
            }
            b.on().read(600);
            due("more than are kept", b.on().rule(9), 42);
            b.heard(2, 48, 0, 0);
            due("a message", b.on().rule(9), 43);
        });
        sentence("10 the CHANNEL picked last (NONE),", () -> {
            Bench b = Bench.of("channel 1;channel 1");
            due("none", b.on().rule(10), NONE);
            b.on().put(1);
            due("nothing to pick", b.on().rule(10), NONE);
            b.on().send(1);
            due("not yet", b.on().rule(10), NONE);
            b.on().put(1);
            due("picked", b.on().rule(10), 1);
            b.on().send(1);
            b.on().put(1);
            due("no CREDIT: as it was", b.on().rule(10), 1);
            b.on().send(0);
            b.on().put(1);
            due("the other", b.on().rule(10), 0);
        });
        sentence("11 the most bytes that a FRAME with a PART of size bytes can become on the LINE (as bound() of HEAD, PART,"
            + " CHECK, and its MARK).", () -> {
                due("1 + 1", Bench.of("check none;size 1;channel 1").on().rule(11), 4);
                due("1 + 18 + 1", Bench.of("size 18;channel 1").on().rule(11), 22);
                due("1 + 19 + 1", Bench.of("size 19;channel 1").on().rule(11), 24);
                due("1 + 19", Bench.of("check none;size 19;channel 1").on().rule(11), 22);
                due("1 + 60 + 1", Bench.of("check crc;size 60;longest 2;channel 1").on().rule(11), 62 + 31 + 1);
                due("way pairs", Bench.of("way pairs;size 18;channel 1").on().rule(11), 22);
                due("way reduced", Bench.of("way reduced;size 18;channel 1").on().rule(11), 22);
            });
        sentence("HIDDEN: no LINE, no such what.", () -> {
            for (int what : new int[] {0, 5, 6, 10, 11}) {
                due("no LINE", new Bench().on().rule(what), HIDDEN);
            }
            Bench b = Bench.of("channel 1");
            for (int what : new int[] {-1, 12, MIN, MAX}) {
                due("rule(" + what + ")", b.on().rule(what), HIDDEN);
            }
        });
    }

    // ---- 7, 8: messages onto the LINE

    private static void sending() {
        section("Promise 7: send");
        sentence("The TAPE (empty then) is SENT by a CHANNEL: how many WAIT there.", () -> {
            Bench b = Bench.of("check none;channel 8;channel 8");
            b.tape(1, 2);
            due("one", b.on().send(1), 1);
            due("the TAPE", b.on().count(0), 0);
            due("none too", b.on().send(1), 2);
            due("another CHANNEL", b.on().send(0), 1);
            b.on().put(60);
            b.on().read(600);
            b.on().take(1);
            due("its bytes", b.hand(), "1 2");
            due("none WAIT", b.on().channel(1, 2), 0);
            due("one again", b.send(1, 3), 1);
        });
        sentence("NONE: no LINE (STATUS 0),", () -> {
            Bench b = new Bench().tape(1, 2);
            refused("no LINE", b, x -> x.send(0), 0);
            refused("no LINE ahead of all", b, x -> x.send(-1), 0);
        });
        sentence("no such CHANNEL (1),", () -> {
            Bench b = underway();
            due("the last one", b.on().send(1), 1);
            b.tape(Bench.sevens(121));
            for (int c : new int[] {2, -1}) {
                refused("send(" + c + ")", b, x -> x.send(c), 1);
            }
            due("far", b.on().send(MAX) + b.on().send(MIN), 2 * NONE);
        });
        sentence("more than 120 bytes (2),", () -> {
            Bench b = underway();
            b.tape(Bench.sevens(120));
            due("120", b.on().send(1), 1);
            b.tape(Bench.sevens(121));
            refused("121", b, x -> x.send(1), 2);
            b.tape(Bench.sevens(300));
            refused("300", b, x -> x.send(1), 2);
        });
        sentence("8 WAIT (3);", () -> {
            Bench b = underway().tape();
            for (int k = 1; k <= 8; k++) {
                due("the " + k + "th", b.on().send(1), k);
            }
            b.tape(1);
            refused("a ninth", b, x -> x.send(1), 3);
            due("the other CHANNEL has one", b.on().send(0), 2);
            b.on().put(1);
            b.on().put(1);
            due("two of them are put", b.on().channel(1, 2) + b.on().channel(0, 2), 8);
            b = Bench.of("check none;size 1;channel 8");
            b.send(0, 1, 2);
            for (int k = 0; k < 7; k++) {
                b.on().send(0);
            }
            b.on().put(1);
            due("a message WAITS till all of it is put", b.on().send(0), NONE);
            b.on().put(1);
            due("then there is room", b.on().send(0), 8);
        });
        sentence("the TAPE stays then.", () -> {
            Bench b = new Bench().tape(3, 1, 2);
            b.on().send(0);
            due("no LINE: its bytes", b.on().unstuff(0) + ": " + b.box(), "2: 1 2");
            b = Bench.of("channel 1");
            b.tape(3, 1, 2);
            b.on().send(1);
            due("no such CHANNEL: its bytes", b.on().unstuff(0) + ": " + b.box(), "2: 1 2");
            b.tape(Bench.sevens(121));
            b.on().send(0);
            due("121", b.on().count(0), 121);
            b.on().end(0);
            for (int k = 0; k < 8; k++) {
                b.on().send(0);
            }
            b.tape(3, 1, 2);
            b.on().send(0);
            due("8 WAIT: its bytes", b.on().unstuff(0) + ": " + b.box(), "2: 1 2");
        });
    }

    private static void putting() {
        section("Promise 8: put");
        sentence("n FRAMES (1 .. 60) at most are put onto the LINE: how many were.", () -> {
            Bench b = Bench.of("check none;size 1;channel 8;channel 8;channel 8;channel 8");
            due("nothing WAITS", b.on().put(60), 0);
            for (int c = 0; c < 4; c++) {
                b.send(c, Bench.sevens(9));
            }
            due("one", b.on().put(1), 1);
            due("two", b.on().put(2), 2);
            due("60: all CREDITS", b.on().put(60), 29);
            due("none", b.on().put(60), 0);
            due("FRAMES", b.on().rule(7), 32);
        });
        sentence("NONE: no LINE (STATUS 0),", () -> {
            Bench b = new Bench();
            refused("no LINE", b, x -> x.put(1), 0);
            refused("no LINE ahead of out of bounds", b, x -> x.put(0), 0);
        });
        sentence("out of bounds (2).", () -> {
            Bench b = underway();
            refused("0", b, x -> x.put(0), 2);
            refused("61", b, x -> x.put(61), 2);
            due("far", b.on().put(-1) + b.on().put(MIN) + b.on().put(MAX), 3 * NONE);
            due("60", b.on().put(60), 1);
        });
    }

    // ---- 9 .. 13: bytes on the LINE

    private static void bytes() {
        section("Promise 9: byteAt");
        sentence("A byte of the LINE (0 .. 255).", () -> {
            Bench b = Bench.of("channel 1").wired(255, 0, 128);
            due("the first", b.on().byteAt(0), 255);
            due("a MARK", b.on().byteAt(1), 0);
            due("the last", b.on().byteAt(2), 128);
            b.on().read(1);
            due("the first is another one now", b.on().byteAt(0), 0);
            b = Bench.filled(600);
            due("the 600th", b.on().byteAt(599), 0);
            due("the 599th", b.on().byteAt(598), 7);
        });
        sentence("NONE: no such one.", () -> {
            due("no LINE", new Bench().on().byteAt(0), NONE);
            Bench b = Bench.of("channel 1");
            due("an empty LINE", b.on().byteAt(0), NONE);
            b.wired(5, 6);
            for (int i : new int[] {-1, 2, MIN, MAX}) {
                due("byteAt(" + i + ")", b.on().byteAt(i), NONE);
            }
            b.on().lose(0);
            due("it is lost", b.on().byteAt(1), NONE);
            due("the 601st", Bench.filled(600).on().byteAt(600), NONE);
        });

        section("Promise 10: flip");
        sentence("A byte is added to v (1 .. 255) without carries: what it is.", () -> {
            Bench b = Bench.of("channel 1").wired(12, 255, 7);
            due("1", b.on().flip(0, 1), 13);
            due("without carries", b.on().flip(0, 9), 4);
            due("to 0", b.on().flip(2, 7), 0);
            due("255", b.on().flip(1, 255), 0);
            due("255 again", b.on().flip(1, 255), 255);
            due("the LINE", b.wire(), "4 255 0");
        });
        sentence("NONE: no LINE (STATUS 0),", () -> {
            Bench b = new Bench();
            refused("no LINE", b, x -> x.flip(0, 1), 0);
            refused("no LINE ahead of all", b, x -> x.flip(-1, 256), 0);
        });
        sentence("no such byte (1),", () -> {
            Bench b = underway();
            refused("behind", b, x -> x.flip(4, 1), 1);
            refused("ahead", b, x -> x.flip(-1, 0), 1);
            due("far", b.on().flip(MAX, 1) + b.on().flip(MIN, 1), 2 * NONE);
            due("the last", b.on().flip(3, 1), 1);
            due("none on an empty LINE", Bench.of("channel 1").on().flip(0, 1), NONE);
        });
        sentence("out of bounds (2).", () -> {
            Bench b = underway();
            refused("0", b, x -> x.flip(0, 0), 2);
            refused("256", b, x -> x.flip(3, 256), 2);
            due("far", b.on().flip(0, -1) + b.on().flip(0, MIN) + b.on().flip(0, MAX), 3 * NONE);
            due("the byte stays", b.wire(), "3 1 2 0");
        });

        section("Promise 11: lose");
        sentence("A byte is lost: what it was.", () -> {
            Bench b = Bench.of("channel 1").wired(1, 2, 0, 255);
            due("the last", b.on().lose(3), 255);
            due("one between", b.on().lose(1), 2);
            due("the rest", b.wire(), "1 0");
            due("the first", b.on().lose(0), 1);
            due("a MARK", b.on().lose(0), 0);
            due("none", b.wire(), "");
            b = Bench.filled(600);
            due("the 600th", b.on().lose(599), 0);
            due("599", b.on().rule(6), 599);
        });
        sentence("NONE: no LINE (STATUS 0),", () -> refused("no LINE", new Bench(), x -> x.lose(0), 0));
        sentence("no such byte (1).", () -> {
            Bench b = underway();
            refused("behind", b, x -> x.lose(4), 1);
            refused("ahead", b, x -> x.lose(-1), 1);
            due("far", b.on().lose(MAX) + b.on().lose(MIN), 2 * NONE);
            due("an empty LINE", Bench.of("channel 1").on().lose(0), NONE);
        });
    }

    private static void moreBytes() {
        section("Promise 12: insert");
        sentence("A byte v (0 .. 255) comes in ahead of the i-th one (as many as there are: at the end): how many there are.",
            () -> {
                Bench b = Bench.of("channel 1");
                due("at the end of none", b.on().insert(0, 255), 1);
                due("at the end", b.on().insert(1, 0), 2);
                due("ahead of all", b.on().insert(0, 7), 3);
                due("between", b.on().insert(2, 8), 4);
                due("the LINE", b.wire(), "7 255 8 0");
                b = Bench.filled(599);
                due("the 600th", b.on().insert(599, 9), 600);
                due("at the end", b.on().byteAt(599), 9);
            });
        sentence("NONE: no LINE (STATUS 0),", () -> {
            Bench b = new Bench();
            refused("no LINE", b, x -> x.insert(0, 0), 0);
            refused("no LINE ahead of all", b, x -> x.insert(-1, 256), 0);
        });
        sentence("no such place (1),", () -> {
            Bench b = underway();
            refused("one behind the end", b, x -> x.insert(5, 0), 1);
            refused("ahead", b, x -> x.insert(-1, 256), 1);
            due("far", b.on().insert(MAX, 0) + b.on().insert(MIN, 0), 2 * NONE);
            due("the end", b.on().insert(4, 0), 5);
        });
        sentence("out of bounds (2),", () -> {
            Bench b = underway();
            refused("256", b, x -> x.insert(0, 256), 2);
            refused("-1", b, x -> x.insert(4, -1), 2);
            due("far", b.on().insert(0, MAX) + b.on().insert(0, MIN), 2 * NONE);
        });
        sentence("there are 600 (3).", () -> {
            Bench b = Bench.filled(600);
            refused("at the end", b, x -> x.insert(600, 0), 3);
            refused("ahead", b, x -> x.insert(0, 255), 3);
            due("place ahead of bounds, bounds ahead of full", b.on().insert(601, 256) + b.on().insert(600, 256), -2);
            due("STATUS", b.status(), "0 1 1 2");
            b.on().lose(0);
            due("with room", b.on().insert(599, 0), 600);
        });

        section("Promise 13: noise");
        sentence("NOISE n times (1 .. 40): how many were done.", () -> {
            Bench b = Bench.filled(320);
            due("1", b.on().noise(1, 1), 1);
            due("40 of many bytes", b.on().noise(40, -1), 40);
            due("one ACT each", b.on().undo() > b.on().undo(), true);
            due("as it was", b.on().rule(6), 320);
            b = Bench.of("channel 1");
            due("lose of an empty LINE", b.on().noise(1, Drawn.seedOf(1, 2)), 0);
            due("the second one is done", b.on().noise(2, Drawn.seedOf(1, 2)), 1);
            due("none of a full LINE", Bench.filled(600).on().noise(2, Drawn.seedOf(2, 2)), 0);
        });
        sentence("NONE: no LINE (STATUS 0),", () -> {
            Bench b = new Bench();
            refused("no LINE", b, x -> x.noise(1, 1), 0);
            refused("no LINE ahead of out of bounds", b, x -> x.noise(0, 1), 0);
        });
        sentence("out of bounds (2).", () -> {
            Bench b = underway();
            refused("0", b, x -> x.noise(0, 1), 2);
            refused("41", b, x -> x.noise(41, 1), 2);
            due("far", b.on().noise(-1, 1) + b.on().noise(MIN, 1) + b.on().noise(MAX, 1), 3 * NONE);
            due("the LINE stays", b.wire(), "3 1 2 0");
        });
    }

    // ---- 14 .. 19: the reader, what is THERE

    private static void reading() {
        section("Promise 14: read");
        sentence("n bytes (1 .. 600; as many as there are) are READ: how many EVENTS came.", () -> {
            Bench b = Bench.of("check none;channel 8").wired(2, 48, 0, 9, 0, 0, 7);
            due("none by two bytes", b.on().read(2), 0);
            due("one by one byte", b.on().read(1), 1);
            due("as many as there are", b.on().read(5), 1);
            due("all are read", b.on().rule(6) + " " + b.on().rule(8), "0 1");
            due("none are there", b.on().read(600), 0);
            b = Bench.filled(600);
            due("600 at once", b.on().read(600), 10);
            due("all", b.on().rule(6), 0);
            b = Bench.filled(600);
            due("all but one", b.on().read(599), 9);
            due("one is left", b.on().rule(6), 1);
        });
        sentence("NONE: no LINE (STATUS 0),", () -> {
            Bench b = new Bench();
            refused("no LINE", b, x -> x.read(1), 0);
            refused("no LINE ahead of out of bounds", b, x -> x.read(0), 0);
        });
        sentence("out of bounds (2).", () -> {
            Bench b = underway();
            refused("0", b, x -> x.read(0), 2);
            refused("601", b, x -> x.read(601), 2);
            due("far", b.on().read(-1) + b.on().read(MIN) + b.on().read(MAX), 3 * NONE);
            due("600", b.on().read(600), 1);
        });
    }

    private static void taking() {
        section("Promise 15: take");
        sentence("A message is TAKEN: it is in the HAND: how many bytes.", () -> {
            Bench b = Bench.of("check none;size 60;longest 60;channel 8;channel 8");
            b.send(0, Bench.sevens(120));
            b.send(0);
            b.send(1, 0, 255);
            b.on().put(60);
            b.on().read(600);
            due("120", b.on().take(0), 120);
            due("the last of these", b.on().hand(119), 7);
            due("another CHANNEL's", b.on().take(1), 2);
            due("instead of the one ahead", b.hand(), "0 255");
            due("none", b.on().take(0), 0);
            due("the HAND", b.on().count(3), 0);
            due("TAKEN", b.on().channel(0, 11) + " " + b.on().channel(1, 11), "2 1");
        });
        sentence("NONE: no LINE (STATUS 0),", () -> {
            Bench b = new Bench();
            refused("no LINE", b, x -> x.take(0), 0);
            refused("no LINE ahead of no such CHANNEL", b, x -> x.take(-1), 0);
        });
        sentence("no such CHANNEL, none THERE (1).", () -> {
            Bench b = underway();
            b.heard(0, 2, 112, 0);
            due("the last CHANNEL", b.on().take(1), 0);
            refused("none left THERE", b, x -> x.take(1), 1);
            refused("a message that isn't whole", b, x -> x.take(0), 1);
            b = underway();
            refused("no such CHANNEL", b, x -> x.take(2), 1);
            refused("no such CHANNEL", b, x -> x.take(-1), 1);
            due("far", b.on().take(MAX) + b.on().take(MIN), 2 * NONE);
        });

        section("Promise 16: hand");
        sentence("The k-th byte in the HAND (0 .. 255).", () -> {
            Bench b = Bench.of("check none;channel 8");
            b.send(0, 0, 255, 128);
            b.on().put(1);
            b.on().read(600);
            due("not before it is TAKEN", b.on().hand(0), NONE);
            b.on().take(0);
            due("first", b.on().hand(0), 0);
            due("second", b.on().hand(1), 255);
            due("last", b.on().hand(2), 128);
            b.on().take(0);
            due("none THERE: as it was", b.on().hand(2), 128);
        });
        sentence("NONE: no such one, no LINE.", () -> {
            due("no LINE", new Bench().on().hand(0), NONE);
            Bench b = Bench.of("check none;channel 8");
            due("empty", b.on().hand(0), NONE);
            b.heard(3, 48, 7, 0);
            b.on().take(0);
            for (int k : new int[] {-1, 1, MIN, MAX}) {
                due("hand(" + k + ")", b.on().hand(k), NONE);
            }
            b.heard(2, 49, 0);
            b.on().take(0);
            due("a message without bytes", b.on().hand(0), NONE);
        });

        section("Promise 17: renew");
        sentence("RENEWED: how many CREDITS it has.", () -> {
            Bench b = Bench.of("channel 8;channel 1");
            b.on().send(0);
            b.on().send(1);
            b.on().put(2);
            due("seven of eight", b.on().channel(0, 0), 7);
            due("eight", b.on().renew(0), 8);
            due("none of one", b.on().channel(1, 0), 0);
            due("one", b.on().renew(1), 1);
        });
        sentence("NONE: no LINE (STATUS 0),", () -> {
            Bench b = new Bench();
            refused("no LINE", b, x -> x.renew(0), 0);
            refused("no LINE ahead of no such CHANNEL", b, x -> x.renew(-1), 0);
        });
        sentence("no such CHANNEL (1),", () -> {
            Bench b = underway();
            refused("2", b, x -> x.renew(2), 1);
            refused("-1", b, x -> x.renew(-1), 1);
            due("far", b.on().renew(MAX) + b.on().renew(MIN), 2 * NONE);
        });
        sentence("it has all (2).", () -> {
            Bench b = underway();
            refused("none was spent", b, x -> x.renew(1), 2);
            due("some were", b.on().renew(0), 4);
            refused("it has all now", b, x -> x.renew(0), 2);
        });
    }

    private static void channels() {
        section("Promise 18: channel");
        sentence("Of a CHANNEL: 0 CREDITS, 1 as told, 2 messages that WAIT, 3 bytes of the first one that were put so far,"
            + " 4 the NUMBER of the next FRAME, 5 the one EXPECTED, 6 LOST, 7 TORN, 8 messages THERE, 9 FRAMES put together"
            + " so far, 10 bytes of these, 11 messages TAKEN in all.", () -> {
                Bench b = Bench.of("check none;size 2;channel 3;channel 5");
                due("at first", b.channel(0) + "; " + b.channel(1), "3 3 0 0 0 0 0 0 0 0 0 0; 5 5 0 0 0 0 0 0 0 0 0 0");
                b.send(0, 1, 2, 3, 4, 5);
                b.send(0, 6);
                due("two WAIT", b.channel(0), "3 3 2 0 0 0 0 0 0 0 0 0");
                b.on().put(2);
                due("two FRAMES of the first", b.channel(0), "1 3 2 4 2 0 0 0 0 0 0 0");
                b.on().read(600);
                due("put together so far", b.channel(0), "1 3 2 4 2 2 0 0 0 2 4 0");
                b.on().put(1);
                due("all of it is put", b.channel(0), "0 3 1 0 3 2 0 0 0 2 4 0");
                b.on().read(600);
                due("it is THERE", b.channel(0), "0 3 1 0 3 3 0 0 1 0 0 0");
                b.on().take(0);
                due("TAKEN", b.channel(0), "3 3 1 0 3 3 0 0 0 0 0 1");
                b.heard(2, 37, 0, 2, 39, 0);
                due("LOST, TORN", b.channel(0), "3 3 1 0 3 8 3 1 0 1 0 1");
                for (int k = 0; k < 13; k++) {
                    b.on().send(0);
                    b.on().put(1);
                    b.on().renew(0);
                }
                due("the NUMBER behind 15", b.on().channel(0, 4), 0);
                due("the other", b.channel(1), "5 5 0 0 0 0 0 0 0 0 0 0");
            });
        sentence("NoSuchElementException: no such ones.", () -> {
            due("no LINE", new Bench().throwsNoSuch(0, 0), true);
            Bench b = Bench.of("channel 3;channel 5");
            due("the last", b.throwsNoSuch(1, 11), false);
            for (int far : new int[] {-1, 2, 4, MIN, MAX}) {
                due("channel(" + far + ", 0)", b.throwsNoSuch(far, 0), true);
            }
            for (int far : new int[] {-1, 12, MIN, MAX}) {
                due("channel(1, " + far + ")", b.throwsNoSuch(1, far), true);
            }
            due("both", b.throwsNoSuch(-1, 12), true);
            due("no STATUS", b.status(), "0 0 0 0");
            b.text("channel 1");
            b.on().line();
            due("not of another LINE", b.throwsNoSuch(1, 0), true);
        });

        section("Promise 19: event");
        sentence("Of EVENTS, the latest (i 0), the one ahead of it (1), 40 at most:", () -> {
            Bench b = Bench.of("check none;size 1;channel 1");
            for (int k = 1; k <= 41; k++) {
                b.wired(2, 64 + k, 0);
            }
            b.on().read(120);
            due("forty", b.on().event(0, 1) + " " + b.on().event(39, 1), "104 65");
            due("a forty-first", b.on().event(40, 1), NONE);
            b.on().read(3);
            due("the latest", b.on().event(0, 1), 105);
            due("the one ahead of it", b.on().event(1, 1), 104);
            due("the fortieth", b.on().event(39, 1), 66);
            due("the first is gone", b.on().event(40, 1), NONE);
        });
        sentence("0 what it was (0 .. 6), 1 the HEAD (NONE of 2, 3), 2 bytes on the LINE (without the MARK; 200 at most), 3"
            + " bytes of its PART (NONE of 2, 3), 4 CHANNEL (NONE of 2, 3).", () -> {
                Bench b = Bench.of("size 1;longest 5;channel 8");
                b.heard(4, 32, 7, 39, 0);
                due("0", b.event(0), "0 32 4 1 0");
                b.heard(3, 17, 17, 0);
                due("1", b.event(0), "1 17 3 0 0");
                b.heard(9, 0);
                due("2", b.event(0), "2 -1 1 -1 -1");
                b.heard(3, 48, 49, 0);
                due("3", b.event(0), "3 -1 3 -1 -1");
                b.heard(5, 240, 1, 2, 243, 0);
                due("4", b.event(0), "4 240 5 2 3");
                b.heard(3, 2, 2, 0);
                due("5", b.event(0), "5 2 3 0 0");
                b = Bench.of("check none;channel 8");
                for (int k = 0; k < 9; k++) {
                    b.wired(2, 48 + k, 0);
                }
                b.on().read(600);
                due("6", b.event(0), "6 56 2 0 0");
                b = Bench.without(255);
                b.on().read(600);
                due("255 bytes", b.event(0), "2 -1 200 -1 -1");
            });
        sentence("NONE: no such ones.", () -> {
            due("no LINE", new Bench().on().event(0, 0), NONE);
            Bench b = Bench.of("check none;channel 8");
            due("none", b.on().event(0, 0), NONE);
            b.heard(2, 48, 0);
            due("one ahead of the first", b.event(1), "-1 -1 -1 -1 -1");
            b.heard(2, 49, 0);
            due("two", b.event(0) + "; " + b.event(1), "1 49 2 0 0; 1 48 2 0 0");
            // 858993460 times five goes round to 4
            for (int i : new int[] {-1, 2, 39, 40, 858993459, MIN, MAX}) {
                due("event(" + i + ", 0)", b.on().event(i, 0), NONE);
            }
            for (int what : new int[] {-1, 5, MIN, MAX}) {
                due("event(0, " + what + ")", b.on().event(0, what), NONE);
                due("event(1, " + what + ")", b.on().event(1, what), NONE);
            }
        });
    }

    // ---- 20 .. 24: stuffing by hand

    private static void stuffing() {
        section("Promise 20: stuff");
        sentence("The TAPE (empty then) STUFFED a way (0, 1, 2; L, Z as told, 20, 10 without a LINE): it is in the BOX: how"
            + " many bytes.", () -> {
                Bench b = Bench.of("way reduced;longest 3;pairs 2;channel 1");
                due("plain", b.stuffed(0, 9, 0, 0, 5, 6, 7), "2 9 1 4 5 6 7");
                due("the TAPE", b.on().count(0), 0);
                due("pairs", b.stuffed(1, 9, 0, 0, 5, 6, 7), "6 9 4 5 6 7");
                due("reduced", b.stuffed(2, 9, 0, 0, 5, 6, 7), "2 9 1 7 5 6");
                due("two aren't fewer than Z", b.stuffed(1, 9, 9, 0, 0), "3 9 9 1 1");
                b = new Bench();
                b.tape(Bench.sevens(20));
                due("20 without a LINE", b.on().stuff(0) + " " + b.on().box(0), "21 21");
                b.tape(Bench.sevens(21));
                due("21", b.on().stuff(0) + " " + b.on().box(21), "23 2");
                b.tape(java.util.Arrays.copyOf(Bench.sevens(9), 11));
                due("nine are fewer than 10", b.on().stuff(1) + " " + b.on().box(0), "10 31");
                b.tape(java.util.Arrays.copyOf(Bench.sevens(10), 12));
                due("ten aren't", b.on().stuff(1) + " " + b.on().box(0), "13 11");
                due("nothing", b.stuffed(0), "1");
                b = Bench.of("longest 2;channel 1");
                b.tape(Bench.sevens(300));
                due("a full TAPE", b.on().stuff(0) + " " + b.on().box(447) + " " + b.on().box(450), "450 3 -1");
            });
        sentence("NONE: no such way (the TAPE stays).", () -> {
            Bench b = new Bench();
            b.stuffed(0, 9);
            b.tape(4, 1, 2, 3);
            for (int way : new int[] {-1, 3}) {
                refused("stuff(" + way + ")", b, x -> x.stuff(way), NONE);
            }
            due("far", b.on().stuff(MIN) + b.on().stuff(MAX), 2 * NONE);
            due("the BOX stays", b.box(), "2 9");
            due("the TAPE's bytes", b.on().unstuff(0) + ": " + b.box(), "3: 1 2 3");
        });

        section("Promise 21: unstuff");
        sentence("The TAPE (empty then) UNSTUFFED: it is in the BOX: how many bytes.", () -> {
            Bench b = Bench.of("longest 3;pairs 2;channel 1");
            due("plain", b.unstuffed(0, 2, 9, 1, 4, 5, 6, 7), "9 0 0 5 6 7");
            due("the TAPE", b.on().count(0), 0);
            due("pairs", b.unstuffed(1, 6, 9, 4, 5, 6, 7), "9 0 0 5 6 7");
            due("reduced", b.unstuffed(2, 2, 9, 1, 7, 5, 6), "9 0 0 5 6 7");
            due("to nothing", b.unstuffed(0, 1), "");
            int[] codes = new int[300];
            java.util.Arrays.fill(codes, 5);
            b.tape(codes);
            due("600 of 300", b.on().unstuff(1), 600);
            due("the last", b.on().box(599) + " " + b.on().box(600), "0 -1");
            b = new Bench();
            b.tape(31, 1, 1, 1, 1, 1, 1, 1, 1, 1);
            due("20, 10 without a LINE", b.on().unstuff(1), 11);
            b.tape(32, 1, 1, 1, 1, 1, 1, 1, 1, 1, 1);
            due("32 is above these", b.on().unstuff(1), -2);
        });
        sentence("NONE: no such way (the TAPE stays);", () -> {
            Bench b = new Bench();
            b.stuffed(0, 9);
            b.tape(4, 1, 2, 3);
            for (int way : new int[] {-1, 3}) {
                refused("unstuff(" + way + ")", b, x -> x.unstuff(way), NONE);
            }
            due("far", b.on().unstuff(MIN) + b.on().unstuff(MAX), 2 * NONE);
            b.on().end(0);
            due("also of nothing", b.on().unstuff(3), NONE);
            due("the BOX stays", b.box(), "2 9");
        });
        sentence("-2 - place: WRONG (likewise).", () -> {
            Bench b = new Bench();
            b.stuffed(0, 9);
            due("at 0", b.tape().on().unstuff(0), -2);
            due("at 0", b.tape(0, 1).on().unstuff(0), -2);
            due("at 1", b.tape(1, 0).on().unstuff(0), -3);
            due("at 2", b.tape(3, 1, 0).on().unstuff(0), -4);
            due("the TAPE stays", b.on().count(0), 3);
            due("the BOX stays", b.box(), "2 9");
            int[] codes = Bench.sevens(300);
            java.util.Arrays.fill(codes, 1);
            codes[299] = 2;
            due("at 299", b.tape(codes).on().unstuff(0), -301);
            due("the TAPE stays", b.on().count(0), 300);
            due("reduced isn't WRONG there", b.on().unstuff(2), 300);
        });
    }

    private static void ways() {
        section("Promise 22: box");
        sentence("The k-th byte in the BOX (0 .. 255; empty at first).", () -> {
            Bench b = new Bench();
            due("empty at first", b.on().box(0) + " " + b.on().count(2), "-1 0");
            b.tape(255, 0);
            b.on().stuff(0);
            due("the bytes", b.on().box(0) + " " + b.on().box(1) + " " + b.on().box(2), "2 255 1");
            b.tape(1, 1);
            b.on().unstuff(0);
            due("instead of these", b.on().box(0) + " " + b.on().box(1), "0 -1");
        });
        sentence("NONE: no such one.", () -> {
            Bench b = new Bench();
            for (int k : new int[] {-1, 0, MIN, MAX}) {
                due("empty: box(" + k + ")", b.on().box(k), NONE);
            }
            b.stuffed(0, 9);
            for (int k : new int[] {-1, 2, MIN, MAX}) {
                due("two: box(" + k + ")", b.on().box(k), NONE);
            }
        });

        section("Promise 23: shortest");
        sentence("Which way the TAPE (it stays) is the shortest STUFFED (of several the lowest).", () -> {
            Bench b = Bench.of("longest 3;pairs 2;way reduced;channel 1");
            b.stuffed(0, 9);
            due("all 1 byte", b.tape().on().shortest(), 0);
            due("all 2 bytes", b.tape(0).on().shortest(), 0);
            due("all 2 bytes", b.tape(1).on().shortest(), 0);
            due("2, 2, 1", b.tape(9).on().shortest(), 2);
            due("3, 1, 3", b.tape(0, 0).on().shortest(), 1);
            due("4, 3, 3", b.tape(0, 0, 9).on().shortest(), 1);
            due("5, 4, 4", b.tape(7, 0, 0, 9).on().shortest(), 1);
            due("5, 5, 4", b.tape(7, 8, 0, 9).on().shortest(), 2);
            due("the TAPE stays", b.on().count(0), 4);
            due("the BOX stays", b.box(), "2 9");
            due("the TAPE's bytes", b.on().stuff(0) + ": " + b.box(), "5: 3 7 8 2 9");
            b = new Bench();
            due("without a LINE", b.tape(1, 1, 1, 1, 1, 1, 1, 1, 1, 0, 0).on().shortest(), 1);
            due("ten aren't fewer than 10", b.tape(1, 1, 1, 1, 1, 1, 1, 1, 1, 1, 0, 0).on().shortest(), 0);
        });

        section("Promise 24: bound");
        sentence("How many bytes n bytes (0 .. 300) STUFFED plain are at the most (L as told, 20 without a LINE): n, and n by"
            + " L upwards, 1 at least.", () -> {
                Bench b = new Bench();
                int[] many = {0, 1, 19, 20, 21, 40, 41, 299, 300};
                int[] due = {1, 2, 20, 21, 23, 42, 44, 314, 315};
                for (int k = 0; k < many.length; k++) {
                    due("bound(" + many[k] + ")", b.on().bound(many[k]), due[k]);
                }
                b = Bench.of("longest 2;channel 1");
                int[] two = {1, 2, 29, 30, 32, 60, 62, 449, 450};
                for (int k = 0; k < many.length; k++) {
                    due("L 2: bound(" + many[k] + ")", b.on().bound(many[k]), two[k]);
                }
                b = Bench.of("way pairs;longest 60;channel 1");
                due("L 60: 0, 60, 61, 300", b.on().bound(0) + " " + b.on().bound(60) + " " + b.on().bound(61) + " "
                    + b.on().bound(300), "1 61 63 305");
            });
        sentence("NONE: out of bounds.", () -> {
            Bench b = new Bench();
            for (int n : new int[] {-1, 301, MIN, MAX}) {
                due("bound(" + n + ")", b.on().bound(n), NONE);
            }
            b = Bench.of("longest 2;channel 1");
            due("with a LINE", b.on().bound(-1) + b.on().bound(301), 2 * NONE);
        });
    }

    // ---- 25 .. 30: FRAMES on the LINE, what would be

    private static void frames() {
        section("Promise 25: frame");
        sentence("Of the k-th FRAME on the LINE: 0 where it begins, 1 bytes (without the MARK), 2 what it is by itself (0"
            + " whole, 2 BROKEN, 3 BAD, 4 STRANGE), 3 its CHANNEL, 4 its NUMBER (NONE of 2, 3).", () -> {
                Bench b = Bench.of("longest 5;size 1;channel 8;channel 8");
                b.wired(0, 3, 127, 127, 0, 0, 9, 0, 2, 48, 0, 5, 200, 1, 2, 203, 0, 3, 248, 248, 0);
                due("whole: NUMBER 15", b.frame(0), "1 3 0 1 15");
                due("BROKEN", b.frame(1), "6 1 2 -1 -1");
                due("BAD", b.frame(2), "8 2 3 -1 -1");
                due("STRANGE: a longer PART, no such CHANNEL", b.frame(3), "11 5 4 3 8");
                due("STRANGE: no such CHANNEL", b.frame(4), "17 3 4 3 8");
                due("the last of four", Bench.filled(256).frame(3), "192 63 0 0 3");
                due("200 bytes", Bench.without(200).frame(0), "0 200 4 0 0");
                due("more than 200", Bench.without(201).frame(0), "0 201 2 -1 -1");
            });
        sentence("NONE: no such ones.", () -> {
            due("no LINE", new Bench().on().frame(0, 0), NONE);
            Bench b = Bench.of("check none;channel 8");
            due("an empty LINE", b.on().frame(0, 0), NONE);
            b.wired(0, 2, 48, 0, 2);
            due("one", b.frame(0), "1 2 0 0 0");
            for (int k : new int[] {-1, 1, 2, MIN, MAX}) {
                due("frame(" + k + ", 0)", b.on().frame(k, 0), NONE);
            }
            for (int what : new int[] {-1, 5, MIN, MAX}) {
                due("frame(0, " + what + ")", b.on().frame(0, what), NONE);
            }
        });
        sentence("(Behind what the reader has: its bytes are not counted.)", () -> {
            Bench b = Bench.of("check none;channel 8").wired(3, 48, 7, 0, 2, 49, 0);
            b.on().read(1);
            due("two bytes are left", b.frame(0), "0 2 2 -1 -1");
            due("the next", b.frame(1), "3 2 0 0 1");
            b.on().read(2);
            due("its MARK alone is left", b.frame(0), "1 2 0 0 1");
            due("FRAMES", b.on().rule(7), 1);
            due("it is whole to the reader", b.on().read(1) + " " + b.on().event(0, 2), "1 3");
        });
    }

    private static void harms() {
        section("Promise 26: harm");
        sentence("HARM.", () -> {
            Bench b = Bench.of("channel 8;channel 8");
            b.send(0, 7);
            b.send(1, 8);
            b.on().put(2);
            due("the LINE", b.wire(), "4 48 7 55 0 4 112 8 120 0");
            due("a byte", b.on().harm(2, 1), 1);
            due("the MARK between", b.on().harm(4, 1), 2);
            due("the last MARK", b.on().harm(9, 255), 1);
            b.on().flip(8, 1);
            due("mended", b.on().harm(8, 1), -1);
            due("not mended", b.on().harm(8, 2), 0);
            String before = b.look();
            b.on().harm(0, 1);
            due("nothing changes", b.look(), before);
        });
        sentence("HIDDEN: no such byte, v, no LINE.", () -> {
            due("no LINE", new Bench().on().harm(0, 1), HIDDEN);
            Bench b = Bench.of("channel 8");
            due("an empty LINE", b.on().harm(0, 1), HIDDEN);
            b.send(0, 7);
            b.on().put(1);
            for (int i : new int[] {-1, 5, MIN, MAX}) {
                due("harm(" + i + ", 1)", b.on().harm(i, 1), HIDDEN);
            }
            for (int v : new int[] {-1, 0, 256, MIN, MAX}) {
                due("harm(0, " + v + ")", b.on().harm(0, v), HIDDEN);
            }
            due("the last byte, v 1 and 255", b.on().harm(4, 1) + b.on().harm(4, 255), 2);
        });

        section("Promise 27: blind");
        sentence("BLIND of the k-th FRAME.", () -> {
            Bench b = Bench.of("check none;channel 8;channel 8").wired(0, 2, 48, 0, 0, 3, 112, 7, 0);
            due("the first", b.on().blind(0), 126);
            due("the second", b.on().blind(1), 126 + 254);
            String before = b.look();
            b.on().blind(1);
            due("nothing changes", b.look(), before);
            due("the LINE stays", b.wire(), "0 2 48 0 0 3 112 7 0");
        });
        sentence("NONE: no such one;", () -> {
            due("no LINE", new Bench().on().blind(0), NONE);
            Bench b = Bench.of("check none;channel 8");
            due("an empty LINE", b.on().blind(0), NONE);
            b.wired(2, 48, 0, 2, 49);
            for (int k : new int[] {-1, 1, 2, MIN, MAX}) {
                due("blind(" + k + ")", b.on().blind(k), NONE);
            }
        });
        sentence("-2: it isn't whole.", () -> {
            Bench b = Bench.of("size 1;channel 8").wired(9, 0, 3, 48, 49, 0, 3, 112, 112, 0, 3, 48, 48, 0);
            due("BROKEN", b.on().blind(0), -2);
            due("BAD", b.on().blind(1), -2);
            due("STRANGE", b.on().blind(2), -2);
            due("whole", b.on().blind(3), 0);
        });
    }

    private static void costs() {
        section("Promise 28: cost");
        sentence("A message of n bytes (0 .. 120) as it would be SENT: 0 how many FRAMES, 1 how many bytes these are on the"
            + " LINE at the most (each as bound() of its HEAD, PART, CHECK), with MARKS.", () -> {
                Bench b = Bench.of("size 7;longest 3;channel 1");
                due("0 bytes", b.on().cost(0, 0) + " " + b.on().cost(0, 1), "1 4");
                due("1 byte", b.on().cost(1, 0) + " " + b.on().cost(1, 1), "1 5");
                due("2 bytes", b.on().cost(2, 0) + " " + b.on().cost(2, 1), "1 7");
                due("7 bytes", b.on().cost(7, 0) + " " + b.on().cost(7, 1), "1 13");
                due("8 bytes", b.on().cost(8, 0) + " " + b.on().cost(8, 1), "2 18");
                due("14 bytes", b.on().cost(14, 0) + " " + b.on().cost(14, 1), "2 26");
                due("120 bytes", b.on().cost(120, 0) + " " + b.on().cost(120, 1), "18 226");
                b = Bench.of("check none;size 1;channel 1");
                due("120 FRAMES", b.on().cost(120, 0) + " " + b.on().cost(120, 1), "120 480");
                due("HEAD alone", b.on().cost(0, 1), 3);
                b = Bench.of("check crc;way reduced;size 60;longest 60;channel 1");
                due("size 60", b.on().cost(120, 0) + " " + b.on().cost(120, 1), "2 130");
            });
        sentence("NONE: no such ones, no LINE.", () -> {
            due("no LINE", new Bench().on().cost(0, 0), NONE);
            Bench b = Bench.of("channel 1");
            for (int n : new int[] {-1, 121, MIN, MAX}) {
                due("cost(" + n + ", 0)", b.on().cost(n, 0), NONE);
                due("cost(" + n + ", 1)", b.on().cost(n, 1), NONE);
            }
            for (int what : new int[] {-1, 2, MIN, MAX}) {
                due("cost(1, " + what + ")", b.on().cost(1, what), NONE);
            }
        });

        section("Promise 29: share");
        sentence("Of FRAMES on the LINE that are whole by themselves, those of a CHANNEL: 0 how many, 1 their bytes with"
            + " MARKS, 2 how many NUMBERS are left out between one and the next of these, together (modulo 16 each), 3 bytes"
            + " of their PARTS.", () -> {
                Bench b = Bench.of("check none;size 2;channel 8;channel 8");
                due("none", share(b, 0) + "; " + share(b, 1), "0 0 0 0; 0 0 0 0");
                b.wired(2, 5, 0);
                due("one: nothing is left out ahead of it", share(b, 0), "1 3 0 0");
                b.wired(3, 70, 9, 0, 4, 7, 1, 1, 0, 9, 9, 0, 5, 9, 1, 1, 1, 0, 0);
                due("5, 7; BROKEN and STRANGE are none of them", share(b, 0), "2 8 1 2");
                b.wired(2, 7, 0);
                due("7 behind 7: fifteen", share(b, 0), "3 11 16 2");
                b.wired(2, 8, 0);
                due("8 behind 7: none", share(b, 0), "4 14 16 2");
                b.wired(2, 15, 0, 1, 1, 0);
                due("0 behind 15: none", share(b, 0), "6 20 22 2");
                b.wired(2, 4);
                due("not without its MARK", share(b, 0), "6 20 22 2");
                due("the other", share(b, 1), "1 4 0 1");
                b = Bench.of("check sum;size 2;channel 8").wired(3, 48, 49, 0, 3, 50, 50, 0);
                due("BAD is none", share(b, 0), "1 4 0 0");
            });
        sentence("NONE: no such ones, no LINE.", () -> {
            due("no LINE", new Bench().on().share(0, 0), NONE);
            Bench b = Bench.of("check none;channel 8;channel 8").wired(2, 176, 0);
            due("the last", b.on().share(1, 3), 0);
            for (int c : new int[] {-1, 2, MIN, MAX}) {
                due("share(" + c + ", 0)", b.on().share(c, 0), NONE);
            }
            for (int what : new int[] {-1, 4, MIN, MAX}) {
                due("share(0, " + what + ")", b.on().share(0, what), NONE);
            }
        });

        section("Promise 30: flushed");
        sentence("FLUSHED: messages THERE (0), LOST (1), TORN (2), that WAIT still (3), EVENTS that would come (4), of all"
            + " CHANNELS together.", () -> {
                Bench b = Bench.of("check none;size 1;channel 2;channel 2");
                b.heard(2, 33, 0, 2, 97, 0);
                b.wired(2, 100, 0);
                b.send(0, 1, 2, 3);
                b.send(0);
                b.send(1);
                String before = b.look();
                // 0: FIRST 0 (fourteen LOST, TORN), 1, and two WAIT; 1: 4 (two LOST, TORN), then 0 (eleven LOST, TORN)
                due("all", b.flushed(), "1 " + (1 + 1 + 14 + 2 + 11) + " 3 2 4");
                due("nothing changes", b.look(), before);
                b = Bench.of("check none;size 1;channel 1;channel 1;channel 1;channel 1");
                for (int c = 0; c < 4; c++) {
                    b.heard(2, 64 * c + 34, 0);
                    b.on().send(c);
                    b.on().send(c);
                }
                // two LOST each, then NUMBER 0 of 3: thirteen more; TORN; one more WAITS without a CREDIT
                due("four CHANNELS", b.flushed(), "4 60 4 4 4");
            });
        sentence("NONE: no such what, no LINE.", () -> {
            due("no LINE", new Bench().on().flushed(0), NONE);
            Bench b = Bench.of("channel 8");
            for (int what : new int[] {-1, 5, MIN, MAX}) {
                due("flushed(" + what + ")", b.on().flushed(what), NONE);
            }
            due("the last", b.on().flushed(4), 0);
        });
    }

    private static String share(Bench b, int channel) {
        return b.on().share(channel, 0) + " " + b.on().share(channel, 1) + " " + b.on().share(channel, 2) + " "
            + b.on().share(channel, 3);
    }

    // ---- 31 .. 36

    private static void undone(String what, java.util.function.ToIntFunction<QuietLine> act) {
        Bench b = rich();
        String before = b.look() + "; " + b.wire();
        int answer = act.applyAsInt(b.on());
        due(what + " is done", answer >= 0, true);
        due(what + ": ACTS", b.on().count(1), 1);
        String done = b.look();
        String hand = b.hand();
        due(what + ": undo()", b.on().undo(), 0);
        due(what + ": all is as it was", b.look() + "; " + b.wire(), before);
        due(what + ": the HAND stays", b.hand(), hand);
        due(what + ": once more", act.applyAsInt(b.on()), answer);
        due(what + ": all is as it was with it", b.look(), done);
    }

    private static void undoing() {
        section("Promise 31: undo");
        sentence("The latest ACT is UNDONE (the HAND stays): how many can be then.", () -> {
            undone("send", x -> x.send(1));
            undone("put", x -> x.put(60));
            undone("flip", x -> x.flip(0, 255));
            undone("lose", x -> x.lose(0));
            undone("insert", x -> x.insert(0, 7));
            undone("noise", x -> x.noise(40, 7));
            undone("read", x -> x.read(600));
            undone("take", x -> x.take(0));
            undone("renew", x -> x.renew(0));
            Bench b = Bench.of("check none;size 2;channel 2;channel 1");
            String start = b.look();
            b.send(0, 1, 2, 3);
            b.on().put(2);
            due("the LINE", b.wire(), "4 32 1 2 0 3 17 3 0");
            b.on().read(5);
            b.on().flip(0, 1);
            due("flip", b.on().undo() + ": " + b.wire(), "3: 3 17 3 0");
            b.on().insert(4, 9);
            due("insert", b.on().undo() + ": " + b.wire(), "3: 3 17 3 0");
            b.on().lose(3);
            due("lose", b.on().undo() + ": " + b.wire(), "3: 3 17 3 0");
            b.on().noise(40, 7);
            due("noise", b.on().undo() + ": " + b.wire(), "3: 3 17 3 0");
            b.on().renew(0);
            due("renew", b.on().undo() + ": " + b.channel(0), "3: 0 2 0 0 2 1 0 0 0 1 2 0");
            b.on().read(600);
            due("it is THERE", b.on().take(0), 3);
            due("take", b.on().undo() + ": " + b.channel(0), "4: 0 2 0 0 2 2 0 0 1 0 0 0");
            due("the HAND stays", b.hand(), "1 2 3");
            due("read", b.on().undo() + ": " + b.on().rule(9) + " " + b.on().rule(6), "3: 1 4");
            b.on().read(2);
            due("read of a FRAME's begin", b.on().undo() + ": " + b.on().rule(8) + " " + b.on().rule(6), "3: 0 4");
            b.on().undo();
            due("put", b.on().undo() + ": " + b.channel(0), "1: 2 2 1 0 0 0 0 0 0 0 0 0");
            due("picked last", b.on().rule(10), NONE);
            due("send", b.on().undo(), 0);
            due("all but the HAND", b.look(), start.replace(" 0 0 0 0 ;", " 0 0 0 3 ;"));
            b = Bench.without(200);
            b.on().insert(200, 1);
            b.on().read(200);
            b.on().read(1);
            b.on().undo();
            b.on().lose(0);
            due("the reader had not too many", b.on().read(1) + " " + b.on().event(0, 0), "1 4");
        });
        sentence("NONE: none.", () -> {
            due("no LINE", new Bench().on().undo(), NONE);
            Bench b = Bench.of("channel 8");
            due("no ACT", b.on().undo(), NONE);
            b.on().insert(0, 1);
            due("one", b.on().undo(), 0);
            refused("none left", b, QuietLine::undo, NONE);
            for (int k = 0; k < 13; k++) {
                b.on().insert(0, 1);
            }
            for (int k = 11; k >= 0; k--) {
                due("twelve", b.on().undo(), k);
            }
            refused("no thirteenth", b, QuietLine::undo, NONE);
        });

        section("Promise 32: image");
        sentence("An IMAGE (instead of the one ahead): bytes on the LINE.", () -> {
            Bench b = Bench.of("channel 2");
            due("none", b.on().image(), 0);
            b.wired(1, 2, 3);
            due("three", b.on().image(), 3);
            due("no ACT", b.on().count(1), 3);
            b.on().undo();
            b.on().undo();
            due("instead of the one ahead", b.on().back() + ": " + b.wire(), "3: 1 2 3");
            due("600", Bench.filled(600).on().image(), 600);
        });
        sentence("NONE: no LINE.", () -> {
            Bench b = new Bench();
            refused("no LINE", b, QuietLine::image, NONE);
            b.text("channel 1");
            b.on().line();
            due("it was none", b.on().back(), NONE);
        });

        section("Promise 33: back");
        sentence("All is as in the IMAGE (no ACT can be UNDONE then; the HAND stays): bytes on the LINE.", () -> {
            Bench b = rich();
            due("bytes", b.on().image(), 3);
            String before = b.look();
            String line = b.wire();
            b.on().put(60);
            b.on().flip(0, 1);
            b.on().read(600);
            due("another one in the HAND", b.on().take(0) + ": " + b.hand(), "1: 6");
            b.on().renew(0);
            b.on().send(0);
            due("bytes", b.on().back(), 3);
            due("no ACT", b.on().undo() + " " + b.on().count(1), "-1 0");
            due("the HAND stays", b.hand(), "6");
            due("all", b.look(), before);
            due("the LINE", b.wire(), line);
            b.on().read(600);
            due("an ACT can be UNDONE again", b.on().count(1), 1);
            due("the IMAGE can be used again", b.on().back(), 3);
            due("all again", b.look(), before);
            due("a message's FRAMES too", b.on().take(0) + " " + b.on().channel(0, 0), "1 8");
        });
        sentence("NONE: no IMAGE of this LINE.", () -> {
            due("no LINE", new Bench().on().back(), NONE);
            Bench b = underway();
            refused("no IMAGE", b, QuietLine::back, NONE);
            b.on().image();
            b.text("size 99");
            b.on().line();
            due("a FAULT leaves it", b.on().back(), 4);
            b.text("channel 1");
            b.on().line();
            b.wired(7);
            refused("another LINE", b, QuietLine::back, NONE);
            b.on().image();
            due("its own", b.on().back(), 1);
        });
    }

    private static void counting() {
        section("Promise 34: status");
        sentence("STATUS.", () -> {
            Bench b = new Bench();
            due("at first", b.status(), "0 0 0 0");
            b.on().put(1);
            b.text("channel 1");
            b.on().line();
            due("it stays with another LINE", b.status(), "1 0 0 0");
            b.on().image();
            b.on().insert(0, 1);
            b.on().take(0);
            b.on().put(0);
            b.on().undo();
            due("it isn't UNDONE", b.status(), "1 1 1 0");
            b.on().back();
            due("nor is it of the IMAGE", b.status(), "1 1 1 0");
        });
        sentence("NONE: no such what.", () -> {
            Bench b = new Bench();
            for (int what : new int[] {-1, 4, MIN, MAX}) {
                due("status(" + what + ")", b.on().status(what), NONE);
            }
            due("the last", b.on().status(3), 0);
        });

        section("Promise 35: most");
        sentence("0 the CHANNEL with most LOST (of several the lowest),", () -> {
            Bench b = Bench.of("check none;channel 8;channel 8;channel 8");
            due("none", b.on().most(0), 0);
            b.heard(2, 178, 0);
            due("two of CHANNEL 2", b.on().most(0), 2);
            b.heard(2, 114, 0);
            due("two of CHANNEL 1, too", b.on().most(0), 1);
            b.heard(2, 51, 0);
            due("three of CHANNEL 0", b.on().most(0), 0);
            b.heard(2, 181, 0);
            due("four of CHANNEL 2", b.on().most(0), 2);
            b = Bench.of("check none;channel 8;channel 8;channel 8;channel 8");
            b.heard(2, 241, 0);
            due("one of CHANNEL 3", b.on().most(0), 3);
        });
        sentence("1 the CHANNEL that would be picked now (NONE),", () -> {
            Bench b = Bench.of("channel 1;channel 2");
            due("nothing WAITS", b.on().most(1), NONE);
            b.on().send(0);
            due("one WAITS", b.on().most(1), 0);
            b.on().send(1);
            b.on().send(1);
            due("more CREDITS", b.on().most(1), 1);
            b.on().put(1);
            due("the first behind it", b.on().most(1), 0);
            b.on().put(2);
            due("nothing WAITS", b.on().most(1), NONE);
            b.on().send(0);
            due("no CREDIT", b.on().most(1), NONE);
            b = Bench.filled(600);
            b.on().send(1);
            due("without room, too", b.on().most(1), 1);
        });
        sentence("2 EVENTS that were BROKEN or BAD, of those kept,", () -> {
            Bench b = Bench.of("check none;channel 8");
            due("none", b.on().most(2), 0);
            due("EVENTS", b.heard(9, 0, 1, 0, 2, 64, 0, 2, 5, 0, 2, 54, 0, 2, 39, 0), 6);
            due("BROKEN, BAD; not STRANGE, SKIPPED, a message, a PART", b.on().most(2), 2);
            for (int k = 0; k < 35; k++) {
                b.wired(2, 64, 0);
            }
            b.on().read(102);
            due("40 are kept", b.on().rule(9) + " " + b.on().most(2), "40 2");
            b.on().read(3);
            due("the BROKEN one is gone", b.on().most(2), 1);
            b.heard(2, 64, 0);
            due("the BAD one is gone", b.on().most(2), 0);
        });
        sentence("3 the longest FRAME on the LINE (bytes; 0 without),", () -> {
            Bench b = Bench.of("check none;channel 8");
            due("without", b.on().most(3), 0);
            b.wired(0, 5, 6);
            due("without its MARK", b.on().most(3), 0);
            b.wired(0);
            due("two", b.on().most(3), 2);
            b.wired(5, 0, 5, 6, 7, 0, 5, 0);
            due("three", b.on().most(3), 3);
            b.on().read(9);
            due("what the reader has is not counted", b.on().most(3), 1);
            due("more than 200", Bench.without(255).on().most(3), 255);
        });
        sentence("4 bytes that WAIT in all (those that were put not),", () -> {
            Bench b = Bench.of("size 2;channel 3;channel 2");
            due("none", b.on().most(4), 0);
            b.send(0, 1, 2, 3);
            b.send(0, 4);
            b.send(1, 5, 6);
            due("six", b.on().most(4), 6);
            b.on().put(1);
            due("two were put", b.on().most(4), 4);
            b.on().put(60);
            due("all were put", b.on().most(4), 0);
            b.on().send(0);
            due("a message without bytes", b.on().most(4), 0);
            for (int k = 0; k < 7; k++) {
                b.send(0, Bench.sevens(120));
            }
            due("seven times 120", b.on().most(4), 840);
            b = Bench.of("channel 8;channel 8;channel 8;channel 8");
            for (int c = 0; c < 4; c++) {
                b.send(c, Bench.sevens(10 + c));
            }
            due("four CHANNELS", b.on().most(4), 46);
        });
        sentence("5 the greatest byte on the LINE (NONE without).", () -> {
            Bench b = Bench.of("channel 8");
            due("without", b.on().most(5), NONE);
            b.wired(0);
            due("0", b.on().most(5), 0);
            b.wired(127, 128, 5);
            due("128", b.on().most(5), 128);
            b.wired(255);
            due("255, without a MARK", b.on().most(5), 255);
            b.on().read(600);
            due("all is read", b.on().most(5), NONE);
        });
        sentence("HIDDEN: no LINE, no such what.", () -> {
            for (int what = 0; what < 6; what++) {
                due("no LINE", new Bench().on().most(what), HIDDEN);
            }
            Bench b = Bench.of("channel 8");
            for (int what : new int[] {-1, 6, MIN, MAX}) {
                due("most(" + what + ")", b.on().most(what), HIDDEN);
            }
        });

        section("Promise 36: count");
        sentence("0 bytes of the TAPE, 1 ACTS that can be UNDONE, 2 bytes in the BOX, 3 bytes in the HAND.", () -> {
            Bench b = Bench.of("check none;channel 4");
            due("none", b.on().count(0) + " " + b.on().count(1) + " " + b.on().count(2) + " " + b.on().count(3), "0 0 0 0");
            b.tape(Bench.sevens(300));
            due("a full TAPE", b.on().count(0), 300);
            b.on().stuff(0);
            due("the BOX", b.on().count(0) + " " + b.on().count(2), "0 315");
            b.send(0, 1, 2, 3);
            b.on().put(1);
            b.on().read(600);
            b.on().take(0);
            due("ACTS, the HAND", b.on().count(1) + " " + b.on().count(3), "4 3");
            for (int k = 0; k < 9; k++) {
                b.on().insert(0, 1);
            }
            due("twelve at most", b.on().count(1), 12);
        });
        sentence("NONE for others.", () -> {
            Bench b = new Bench();
            for (int what : new int[] {-1, 4, MIN, MAX}) {
                due("count(" + what + ")", b.on().count(what), NONE);
            }
        });
    }

    public static void main(String[] args) throws java.io.IOException {
        begin(args);
        theTape();
        theLine();
        rules();
        sending();
        putting();
        bytes();
        moreBytes();
        reading();
        taking();
        channels();
        stuffing();
        ways();
        frames();
        harms();
        costs();
        undoing();
        counting();
        due("the document's promises", sections("Promise "), 36);
        finish("calls");
    }
}
