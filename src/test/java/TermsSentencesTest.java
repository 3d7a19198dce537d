/** The document's section "Terms", sentence by sentence; what is due was worked out by hand from its words. */
public final class TermsSentencesTest extends Sentences {
    private static final int PLAIN = 0;
    private static final int PAIRS = 1;
    private static final int REDUCED = 2;

    private static void fault(String text, int due) {
        Bench b = new Bench().text(text);
        due("fault() of '" + text + "'", b.on().fault(), due);
    }

    private static void stuffed(Bench b, int way, String due, int... bytes) {
        due("stuff(" + way + ") of " + java.util.Arrays.toString(bytes), b.stuffed(way, bytes), due);
    }

    private static void unstuffed(Bench b, int way, String due, int... bytes) {
        due("unstuff(" + way + ") of " + java.util.Arrays.toString(bytes), b.unstuffed(way, bytes), due);
    }

    // ---- a LINE

    private static void pieces() {
        sentence("A LINE is a TEXT: PIECES with ; between, in any order,", () -> {
            String[] pieces = {"way pairs", "longest 7", "pairs 3", "check crc", "size 9", "channel 2"};
            for (int first = 0; first < pieces.length; first++) {
                StringBuilder text = new StringBuilder(pieces[first]);
                for (int k = 1; k < pieces.length; k++) {
                    text.append(';').append(pieces[(first + k) % pieces.length]);
                }
                Bench b = Bench.of(text.toString());
                String told = "";
                for (int what = 0; what < 6; what++) {
                    told += b.on().rule(what) + " ";
                }
                due("the rules of " + text, told, "1 7 3 2 9 1 ");
            }
            fault("size 5 channel 1", 7);
            fault("size 5,channel 1", 6);
            fault(";channel 1", 0);
            fault("channel 1;;size 5", 10);
            fault("channel 1;", 10);
        });
        sentence("each sort once at most but channel:", () -> {
            fault("way plain;way plain;channel 1", 10);
            fault("longest 9;channel 1;longest 8", 20);
            fault("pairs 3;channel 1;pairs 3", 18);
            fault("check sum;channel 1;check none", 20);
            fault("size 5;channel 1;size 5", 17);
            fault("channel 1;channel 1", NONE);
            fault("way pairs;pairs 3;channel 1", NONE);
        });
        sentence("way plain | way pairs | way reduced (plain without) |", () -> {
            due("without", Bench.of("channel 1").on().rule(0), 0);
            due("plain", Bench.of("way plain;channel 1").on().rule(0), 0);
            due("pairs", Bench.of("way pairs;channel 1").on().rule(0), 1);
            due("reduced", Bench.of("way reduced;channel 1").on().rule(0), 2);
            fault("way plai;channel 1", 4);
            fault("way plains;channel 1", 4);
            fault("way none;channel 1", 4);
            fault("way 1;channel 1", 4);
            fault("way;channel 1", 3);
        });
        sentence("longest N (2 .. 60; 20 without) |", () -> numberPiece("longest", 1, 2, 60, 20));
        sentence("pairs N (1 .. 30; 10 without) |", () -> numberPiece("pairs", 2, 1, 30, 10));
        sentence("check none | check sum | check crc (sum without) |", () -> {
            due("without", Bench.of("channel 1").on().rule(3), 1);
            due("none", Bench.of("check none;channel 1").on().rule(3), 0);
            due("sum", Bench.of("check sum;channel 1").on().rule(3), 1);
            due("crc", Bench.of("check crc;channel 1").on().rule(3), 2);
            fault("check su;channel 1", 6);
            fault("check crcs;channel 1", 6);
            fault("check plain;channel 1", 6);
            fault("check 1;channel 1", 6);
            fault("check;channel 1", 5);
        });
        sentence("size N (1 .. 60; 16 without) |", () -> numberPiece("size", 4, 1, 60, 16));
    }

    private static void numberPiece(String sort, int what, int least, int most, int without) {
        int at = sort.length() + 1;
        fault(sort + " " + (least - 1) + ";channel 1", at);
        fault(sort + " " + least + ";channel 1", NONE);
        fault(sort + " " + most + ";channel 1", NONE);
        fault(sort + " " + (most + 1) + ";channel 1", at);
        fault(sort + " 0;channel 1", at);
        fault(sort + " 99;channel 1", at);
        fault(sort + " plain;channel 1", at);
        due("the least", Bench.of(sort + " " + least + ";channel 1").on().rule(what), least);
        due("the most", Bench.of(sort + " " + most + ";channel 1").on().rule(what), most);
        due("without", Bench.of("channel 1").on().rule(what), without);
    }

    private static void channels() {
        sentence("channel C (1 .. 8 CREDITS;", () -> {
            fault("channel 0", 8);
            fault("channel 1", NONE);
            fault("channel 8", NONE);
            fault("channel 9", 8);
            fault("channel 10", 8);
            fault("channel sum", 8);
            due("one CREDIT", Bench.of("channel 1").on().channel(0, 0), 1);
            due("eight CREDITS", Bench.of("channel 8").on().channel(0, 0), 8);
            due("as told", Bench.of("channel 8").on().channel(0, 1), 8);
        });
        sentence("CHANNELS are numbered from 0 on as they stand;", () -> {
            Bench b = Bench.of("channel 3;size 2;channel 5;channel 7;channel 2");
            due("0", b.on().channel(0, 1), 3);
            due("1", b.on().channel(1, 1), 5);
            due("2", b.on().channel(2, 1), 7);
            due("3", b.on().channel(3, 1), 2);
            due("4", b.throwsNoSuch(4, 1), true);
            due("-1", b.throwsNoSuch(-1, 1), true);
        });
        sentence("1 to 4 of these must be told).", () -> {
            fault("size 5", 6);
            String text = "";
            for (int many = 1; many <= 4; many++) {
                text += many == 1 ? "channel 1" : ";channel 1";
                fault(text, NONE);
                due(many + " told", Bench.of(text).on().rule(5), many);
            }
            fault(text + ";channel 1", 40);
        });
    }

    private static void parts() {
        sentence("Words (small letters),", () -> {
            fault("Channel 1", 0);
            fault("cHannel 1", 0);
            fault("channeL 1", 0);
            fault("channel 1;way plaina", 14);
            fault("channel 1;way plainz", 14);
            fault("channel 1;way plain`", 19);
            fault("channel 1;way plain{", 19);
            fault("channel 1;way plainA", 19);
            fault("channel 1;way plainZ", 19);
            fault("channel 1;way plain\u00fa", 19);
        });
        sentence("NUMBERS (digits; of two at most) as many as stand together;", () -> {
            fault("size 05;channel 08", NONE);
            due("05", Bench.of("size 05;channel 08").on().rule(4), 5);
            due("08", Bench.of("size 05;channel 08").on().channel(0, 0), 8);
            due("59", Bench.of("size 59;channel 1").on().rule(4), 59);
            fault("size 005;channel 1", 5);
            fault("size 0000000000000000005;channel 1", 5);
            fault("size 4294967297;channel 1", 5);
            fault("size 1 6;channel 1", 7);
            fault("channel 1/", 9);
            fault("channel 1:", 9);
            fault("channel 1x", 9);
            fault("channel -1", 8);
            fault("channel +1", 8);
            fault("size16;channel1", NONE);
            fault("sizechannel1", 0);
        });
        sentence("blanks (32) ahead of and behind all of these and ; .", () -> {
            fault("  way   pairs  ;  longest  9 ;channel   8   ", NONE);
            for (int other : new int[] {0, 9, 10, 13, 31, 33, 160, 255}) {
                fault((char) other + "channel 1", 0);
                fault("channel" + (char) other + "1", 7);
                fault("channel 1" + (char) other, 9);
            }
            fault("chan nel 1", 0);
            fault(" ".repeat(291) + "channel 1", NONE);
            fault("channel" + " ".repeat(292) + "1", NONE);
            fault("channel 1" + " ".repeat(291), NONE);
        });
    }

    private static void faults() {
        sentence("FAULT: where the first part (a word, a NUMBER, another byte) begins that can't stand there", () -> {
            fault("channel x", 8);
            fault("  5 channel 1", 2);
            fault("channel ? 1", 8);
            fault("size 99;way x;channel 0", 5);
            fault("size 9;way x;channel 0", 11);
            fault("channel 1 channel", 10);
            fault("channel 1 1", 10);
            // as digits these would be 15 and 11
            fault("size ?;channel 1", 5);
            fault("size ;channel 1", 5);
        });
        sentence("(the length, if the TEXT ends too early, also without a channel):", () -> {
            fault("", 0);
            fault("   ", 3);
            fault("channel", 7);
            fault("channel  ", 9);
            fault("channel 1;", 10);
            fault("channel 1; ", 11);
            fault("size 5", 6);
            fault("size 5  ", 8);
            fault("way plain;size 5;check sum", 26);
            fault(" ".repeat(300), 300);
            fault("size 5" + " ".repeat(294), 300);
        });
        sentence("a word that is none there,", () -> {
            fault("plain;channel 1", 0);
            fault("way sum;channel 1", 4);
            fault("check pairs;channel 1", 6);
            fault("pairs pairs;channel 1", 6);
            fault("way way;channel 1", 4);
            fault("size longest;channel 1", 5);
            // as digits these would be 49 and 50
            fault("size a;channel 1", 5);
            fault("longest b;channel 1", 8);
            fault("channels 1", 0);
            fault("channe 1", 0);
            fault("xhannel 1", 0);
            fault("channex 1", 0);
            fault("channel 1;x", 10);
            fault("channel 1;way xlain", 14);
            fault("channel 1;check xum", 16);
        });
        sentence("a sort the second time (a fifth channel),", () -> {
            fault("channel 1;size 5;size 99", 17);
            fault("channel 1;way plain;way x", 20);
            fault("channel 1;channel 2;channel 3;channel 4;channel 5", 40);
            fault("channel 1;channel 2;channel 3;channel 4; channel 9", 41);
            fault("channel 1;channel 2;channel 3;channel 4;size 5", NONE);
        });
        sentence("a NUMBER of more digits,", () -> {
            fault("size 016;channel 1", 5);
            fault("channel 001", 8);
            fault("longest 100;channel 1", 8);
            fault("pairs 010;channel 1", 6);
            fault("size 16;channel 01", NONE);
        });
        sentence("out of bounds.", () -> {
            fault("size 5;longest 1;channel 1", 15);
            fault("size 5;longest 61;channel 1", 15);
            fault("size 5;pairs 00;channel 1", 13);
            fault("size 5;pairs 31;channel 1", 13);
            fault("check sum;size 00;channel 1", 15);
            fault("check sum;size 61;channel 1", 15);
            fault("size 5;channel 00", 15);
            fault("size 5;channel 09", 15);
            fault("channel 1;channel 9", 18);
        });
    }

    // ---- STUFFED

    private static void stuffing() {
        passed("==== 2.");
        sentence("STUFFED bytes (L longest, Z pairs): BLOCKS one behind the other: a CODE, then bytes as they are.", () -> {
            Bench b = Bench.of("longest 3;pairs 2;channel 1");
            stuffed(b, PLAIN, "2 7 3 8 9 2 255", 7, 0, 8, 9, 0, 255);
            stuffed(b, PAIRS, "6 7 3 8 9 1", 7, 0, 0, 8, 9, 0);
            b = Bench.of("longest 2;pairs 2;channel 1");
            stuffed(b, PLAIN, "2 7 3 8 9 1 2 255", 7, 0, 8, 9, 0, 255);
            stuffed(b, PLAIN, "3 7 8 2 9", 7, 8, 9);
            stuffed(b, PAIRS, "5 7 3 8 9 1 1", 7, 0, 0, 8, 9, 0);
        });
        sentence("From a place on: the RUN of bytes that aren't 0, L at most.", () -> {
            Bench b = Bench.of("longest 2;channel 1");
            stuffed(b, PLAIN, "2 1", 1);
            stuffed(b, PLAIN, "2 255", 255);
            stuffed(b, PLAIN, "3 1 2", 1, 2);
            stuffed(b, PLAIN, "3 1 2 2 3", 1, 2, 3);
            stuffed(b, PLAIN, "3 1 2 3 3 4 2 5", 1, 2, 3, 4, 5);
            b = Bench.of("longest 60;channel 1");
            b.tape(Bench.sevens(59));
            due("59 of 60", b.on().stuff(PLAIN), 60);
            due("its CODE", b.on().box(0), 60);
            b.tape(Bench.sevens(61));
            due("61 of 60", b.on().stuff(PLAIN), 63);
            due("the second CODE", b.on().box(61), 2);
        });
        sentence("A RUN of L: CODE L + 1, the RUN; if no bytes are left, that is all.", () -> {
            Bench b = Bench.of("longest 3;channel 1");
            for (int way = PLAIN; way <= PAIRS; way++) {
                stuffed(b, way, "4 1 2 3", 1, 2, 3);
                stuffed(b, way, "4 1 2 3 4 4 5 6", 1, 2, 3, 4, 5, 6);
                stuffed(b, way, "4 1 2 3 1 1", 1, 2, 3, 0);
                stuffed(b, way, "4 1 2 3 1 2 4", 1, 2, 3, 0, 4);
            }
            b = Bench.of("longest 60;channel 1");
            b.tape(Bench.sevens(300));
            due("five RUNS of 60", b.on().stuff(PLAIN), 305);
            due("the last CODE", b.on().box(244), 61);
        });
        sentence("Else CODE the RUN's length and 1, the RUN; if no bytes are left, that is all;", () -> {
            Bench b = Bench.of("longest 3;channel 1");
            for (int way = PLAIN; way <= PAIRS; way++) {
                stuffed(b, way, "2 9", 9);
                stuffed(b, way, "3 1 2", 1, 2);
                stuffed(b, way, "1 3 1 2", 0, 1, 2);
            }
        });
        sentence("else the 0 behind the RUN is passed, too, and there is one more BLOCK (also if no bytes are left then).",
            () -> {
                Bench b = Bench.of("longest 3;channel 1");
                stuffed(b, PLAIN, "1 1", 0);
                stuffed(b, PLAIN, "1 1 1", 0, 0);
                stuffed(b, PLAIN, "2 1 1", 1, 0);
                stuffed(b, PLAIN, "3 1 2 1", 1, 2, 0);
                stuffed(b, PLAIN, "3 1 2 2 5", 1, 2, 0, 5);
                stuffed(b, PAIRS, "2 1 1", 1, 0);
                stuffed(b, REDUCED, "2 1 1", 1, 0);
                b.tape(new int[300]);
                due("300 of 0", b.on().stuff(PLAIN), 301);
            });
    }

    private static void stuffingOtherWays() {
        sentence("Way pairs: if the RUN is shorter than Z (and than L) and two 0 follow it,", () -> {
            Bench b = Bench.of("longest 5;pairs 3;channel 1");
            stuffed(b, PAIRS, "9 1 2", 1, 2, 0, 0);
            stuffed(b, PAIRS, "4 1 2 3 1 1", 1, 2, 3, 0, 0);
            stuffed(b, PAIRS, "2 1 1", 1, 0);
            stuffed(b, PAIRS, "2 1 2 2", 1, 0, 2);
            stuffed(b, PAIRS, "2 1 2 2 1", 1, 0, 2, 0);
            b = Bench.of("longest 2;pairs 30;channel 1");
            stuffed(b, PAIRS, "5 1", 1, 0, 0);
            stuffed(b, PAIRS, "3 1 2 4", 1, 2, 0, 0);
            b = Bench.of("longest 3;pairs 3;channel 1");
            stuffed(b, PAIRS, "7 1 2", 1, 2, 0, 0);
            stuffed(b, PAIRS, "4 1 2 3 5", 1, 2, 3, 0, 0);
            b = Bench.of("longest 5;pairs 1;channel 1");
            stuffed(b, PAIRS, "7", 0, 0);
            stuffed(b, PAIRS, "2 1 1 1", 1, 0, 0);
            stuffed(b, PLAIN, "1 1 1", 0, 0);
            stuffed(b, REDUCED, "1 1 1", 0, 0);
        });
        sentence("rather CODE L + 2 and the RUN's length, the RUN; both 0 are passed; if no bytes are left, that is all.",
            () -> {
                Bench b = Bench.of("longest 5;pairs 3;channel 1");
                stuffed(b, PAIRS, "7", 0, 0);
                stuffed(b, PAIRS, "8 1", 1, 0, 0);
                stuffed(b, PAIRS, "7 1 1", 0, 0, 0);
                stuffed(b, PAIRS, "7 7", 0, 0, 0, 0);
                stuffed(b, PAIRS, "8 1 2 2", 1, 0, 0, 2);
                stuffed(b, PAIRS, "6 1 2 3 4 5 7", 1, 2, 3, 4, 5, 0, 0);
                b = Bench.of("longest 60;pairs 30;channel 1");
                int[] bytes = java.util.Arrays.copyOf(Bench.sevens(29), 31);
                b.tape(bytes);
                due("the longest", b.on().stuff(PAIRS), 30);
                due("the highest CODE", b.on().box(0), 91);
            });
        sentence("(No bytes at all: CODE 1 alone.)", () -> {
            Bench b = Bench.of("longest 5;channel 1");
            for (int way = PLAIN; way <= REDUCED; way++) {
                stuffed(b, way, "1");
                stuffed(new Bench(), way, "1");
            }
        });
        sentence("Way reduced: as plain; then, if the last BLOCK's RUN has a byte and its last one is no less than its CODE"
            + " (as numbers 0 .. 255), that stands in the CODE's place and is left out at the end.", () -> {
                Bench b = Bench.of("longest 5;channel 1");
                stuffed(b, REDUCED, "2 1", 1);
                stuffed(b, REDUCED, "2", 2);
                stuffed(b, REDUCED, "3", 3);
                stuffed(b, REDUCED, "127", 127);
                stuffed(b, REDUCED, "128", 128);
                stuffed(b, REDUCED, "255", 255);
                stuffed(b, REDUCED, "3 7 2", 7, 2);
                stuffed(b, REDUCED, "3 7", 7, 3);
                stuffed(b, REDUCED, "2 9 1", 9, 0);
                stuffed(b, REDUCED, "1");
                stuffed(b, REDUCED, "1 1", 0);
                stuffed(b, REDUCED, "6 1 1 1 1 5", 1, 1, 1, 1, 5);
                stuffed(b, REDUCED, "6 1 1 1 1", 1, 1, 1, 1, 6);
                stuffed(b, REDUCED, "2 9 200", 9, 0, 200);
                stuffed(b, REDUCED, "6 9 9 9 9 9 2 1", 9, 9, 9, 9, 9, 1);
                stuffed(b, REDUCED, "6 9 9 9 9 9 1 1", 9, 9, 9, 9, 9, 0);
            });
    }

    // ---- UNSTUFFED

    private static void unstuffing() {
        sentence("UNSTUFFED: CODE by CODE: c up to L: c - 1 bytes, then a 0, if anything is left;", () -> {
            Bench b = Bench.of("longest 3;pairs 2;channel 1");
            for (int way = PLAIN; way <= REDUCED; way++) {
                unstuffed(b, way, "", 1);
                unstuffed(b, way, "0", 1, 1);
                unstuffed(b, way, "9", 2, 9);
                unstuffed(b, way, "8 9 0", 3, 8, 9, 1);
                unstuffed(b, way, "8 9 0 7", 3, 8, 9, 2, 7);
            }
        });
        sentence("L + 1: L bytes;", () -> {
            Bench b = Bench.of("longest 3;pairs 2;channel 1");
            for (int way = PLAIN; way <= REDUCED; way++) {
                unstuffed(b, way, "1 2 3", 4, 1, 2, 3);
                unstuffed(b, way, "1 2 3", 4, 1, 2, 3, 1);
                unstuffed(b, way, "1 2 3 9", 4, 1, 2, 3, 2, 9);
            }
        });
        sentence("way pairs, L + 2 to L + 1 + Z: c - L - 2 bytes, then two 0.", () -> {
            Bench b = Bench.of("longest 3;pairs 2;channel 1");
            unstuffed(b, PAIRS, "0 0", 5);
            unstuffed(b, PAIRS, "9 0 0", 6, 9);
            unstuffed(b, PAIRS, "9 0 0", 6, 9, 1);
            unstuffed(b, PAIRS, "9 0 0 0 0", 6, 9, 5);
            unstuffed(b, PAIRS, "WRONG 0", 7, 9, 9);
            unstuffed(b, PLAIN, "WRONG 0", 5);
            unstuffed(b, REDUCED, "5", 5);
            b = Bench.of("longest 2;pairs 4;channel 1");
            unstuffed(b, PAIRS, "1 2 3 0 0", 7, 1, 2, 3);
            b = Bench.of("longest 60;pairs 30;channel 1");
            int[] bytes = Bench.sevens(30);
            bytes[0] = 91;
            b.tape(bytes);
            due("the highest CODE", b.on().unstuff(PAIRS), 31);
        });
        sentence("Way reduced: if fewer are left than that many (c - 1 of any c): these, and c itself as a byte: the end.",
            () -> {
                Bench b = Bench.of("longest 3;channel 1");
                unstuffed(b, REDUCED, "", 1);
                unstuffed(b, REDUCED, "2", 2);
                unstuffed(b, REDUCED, "255", 255);
                unstuffed(b, REDUCED, "7 3", 3, 7);
                unstuffed(b, REDUCED, "7 8", 3, 7, 8);
                unstuffed(b, REDUCED, "1 2 4", 4, 1, 2);
                unstuffed(b, REDUCED, "1 1 1 5", 5, 1, 1, 1);
                unstuffed(b, REDUCED, "9 0 2", 2, 9, 2);
                unstuffed(b, REDUCED, "1 2 3 255", 4, 1, 2, 3, 255);
                int[] bytes = Bench.sevens(254);
                bytes[0] = 255;
                b.tape(bytes);
                due("253 left of 254", b.on().unstuff(REDUCED), 254);
                due("c itself", b.on().box(253), 255);
            });
    }

    private static void wrongs() {
        sentence("WRONG is the first CODE that is 0,", () -> {
            Bench b = Bench.of("longest 3;pairs 2;channel 1");
            for (int way = PLAIN; way <= REDUCED; way++) {
                unstuffed(b, way, "WRONG 0", 0);
                unstuffed(b, way, "WRONG 0", 0, 0);
                unstuffed(b, way, "WRONG 1", 1, 0, 1);
                unstuffed(b, way, "WRONG 2", 2, 5, 0);
                unstuffed(b, way, "WRONG 4", 4, 5, 5, 5, 0, 0);
            }
        });
        sentence("above these", () -> {
            Bench b = Bench.of("longest 3;pairs 2;channel 1");
            unstuffed(b, PLAIN, "1 1 1", 4, 1, 1, 1);
            unstuffed(b, PLAIN, "WRONG 0", 5, 1, 1, 1, 1);
            unstuffed(b, PLAIN, "WRONG 2", 2, 9, 5, 1, 1, 1, 1);
            unstuffed(b, PAIRS, "1 0 0", 6, 1);
            unstuffed(b, PAIRS, "WRONG 0", 7, 1, 1, 1, 1, 1, 1);
            unstuffed(b, PAIRS, "WRONG 1", 5, 7, 1, 1, 1, 1, 1, 1);
            unstuffed(b, PAIRS, "WRONG 0", 255, 1, 1);
        });
        sentence("(reduced: above L + 1, if c - 1 are left),", () -> {
            Bench b = Bench.of("longest 3;pairs 2;channel 1");
            unstuffed(b, REDUCED, "1 1 1", 4, 1, 1, 1);
            unstuffed(b, REDUCED, "WRONG 0", 5, 1, 1, 1, 1);
            unstuffed(b, REDUCED, "WRONG 0", 5, 1, 1, 1, 1, 1);
            unstuffed(b, REDUCED, "1 1 1 5", 5, 1, 1, 1);
            unstuffed(b, REDUCED, "WRONG 2", 2, 9, 5, 1, 1, 1, 1);
            unstuffed(b, REDUCED, "WRONG 0", 6, 1, 1, 1, 1, 1);
            int[] bytes = Bench.sevens(255);
            bytes[0] = 255;
            b.tape(bytes);
            due("254 left of 254", b.on().unstuff(REDUCED), -2);
        });
        sentence("or with too few bytes left (not reduced),", () -> {
            Bench b = Bench.of("longest 3;pairs 2;channel 1");
            for (int way = PLAIN; way <= PAIRS; way++) {
                unstuffed(b, way, "WRONG 0", 2);
                unstuffed(b, way, "WRONG 0", 3, 1);
                unstuffed(b, way, "1 2", 3, 1, 2);
                unstuffed(b, way, "WRONG 0", 4, 1, 2);
                unstuffed(b, way, "WRONG 2", 2, 9, 3, 1);
                unstuffed(b, way, "WRONG 0", 4, 0, 0);
            }
            unstuffed(b, PAIRS, "WRONG 0", 6);
            unstuffed(b, PAIRS, "WRONG 1", 5, 6);
            unstuffed(b, REDUCED, "2", 2);
            unstuffed(b, REDUCED, "1 2 4", 4, 1, 2);
        });
        sentence("or the first 0 among a CODE's bytes, at its place;", () -> {
            Bench b = Bench.of("longest 3;pairs 2;channel 1");
            for (int way = PLAIN; way <= REDUCED; way++) {
                unstuffed(b, way, "WRONG 1", 2, 0);
                unstuffed(b, way, "WRONG 1", 3, 0, 0);
                unstuffed(b, way, "WRONG 2", 3, 9, 0);
                unstuffed(b, way, "WRONG 3", 4, 1, 2, 0);
                unstuffed(b, way, "WRONG 4", 2, 9, 3, 1, 0);
            }
            unstuffed(b, PAIRS, "WRONG 1", 6, 0);
            unstuffed(b, PAIRS, "WRONG 2", 5, 6, 0);
            unstuffed(b, REDUCED, "WRONG 1", 9, 0);
            unstuffed(b, REDUCED, "WRONG 2", 9, 1, 0, 1);
        });
        sentence("no bytes at all are WRONG at 0.", () -> {
            Bench b = Bench.of("longest 3;pairs 2;channel 1");
            for (int way = PLAIN; way <= REDUCED; way++) {
                unstuffed(b, way, "WRONG 0");
                unstuffed(new Bench(), way, "WRONG 0");
            }
        });
    }

    // ---- a FRAME

    private static void frames() {
        sentence("A FRAME: a HEAD: 64 times the CHANNEL, 32 more if it is a FIRST one, 16 more if it is a LAST one, and"
            + " its NUMBER (0 .. 15);", () -> {
                Bench b = Bench.of("check none;size 1;channel 8;channel 8;channel 8;channel 8");
                b.send(3, 7, 8, 9);
                b.on().put(60);
                due("FIRST, neither, LAST", b.wire(), "3 224 7 0 3 193 8 0 3 210 9 0");
                b.on().read(600);
                b.send(1);
                b.send(1, 5, 6);
                b.on().put(60);
                due("both; FIRST; LAST", b.wire(), "2 112 0 3 97 5 0 3 82 6 0");
                b = Bench.of("check none;size 1;channel 8");
                for (int k = 0; k < 3; k++) {
                    b.send(0, 1, 1, 1, 1, 1, 1);
                    b.on().put(6);
                    b.on().renew(0);
                }
                due("the sixteenth FRAME's CODE", b.on().byteAt(60), 3);
                due("NUMBER 15", b.on().byteAt(61), 15);
                due("NUMBER 0: a HEAD of 0", b.on().byteAt(64) + " " + b.on().byteAt(65), "1 2");
                due("NUMBER 1, LAST", b.on().byteAt(69), 17);
            });
        sentence("a PART of a message (size bytes at most);", () -> {
            Bench b = Bench.of("check none;size 1;channel 8");
            b.send(0, 7, 8);
            b.on().put(60);
            due("size 1", b.wire(), "3 32 7 0 3 17 8 0");
            b = Bench.of("check none;size 60;channel 8");
            b.send(0, Bench.sevens(61));
            due("two FRAMES", b.on().put(60), 2);
            b.on().read(600);
            due("sixty", b.on().event(1, 3), 60);
            due("the rest", b.on().event(0, 3), 1);
        });
        sentence("its CHECK: none: none;", () -> {
            Bench b = Bench.of("check none;channel 8");
            b.send(0, 9);
            b.send(0);
            b.on().put(2);
            due("no byte behind the PART", b.wire(), "3 48 9 0 2 49 0");
            due("HEAD and PART", b.frame(0), "0 3 0 0 0");
            due("a HEAD alone", b.frame(1), "4 2 0 0 1");
        });
        sentence("sum: all bytes ahead of it in the FRAME together, modulo 256;", () -> {
            Bench b = Bench.of("check sum;channel 8");
            b.send(0, 200, 7);
            b.send(0, 200, 7);
            b.send(0, 200, 7);
            b.send(0);
            b.on().put(4);
            due("255, 256, 257, a HEAD alone", b.wire(),
                "5 48 200 7 255 0 4 49 200 7 1 0 5 50 200 7 1 0 3 51 51 0");
            b.on().read(600);
            b.on().renew(0);
            b.send(0, 255, 255, 255, 255);
            b.on().put(1);
            due("48 + 4 + 4 * 255", b.wire(), "7 52 255 255 255 255 48 0");
        });
        sentence("crc: a byte, 0 at first: of each byte ahead: it is the two added without carries, then eight times: twice"
            + " it, modulo 256, and if it was 128 or more, 7 added without carries.", () -> {
                // by long division of polynomials: 1: 7, 48: 144, 127: 122, 128: 137, 255: 243; 128 1: 177; 48 7: 236
                int[][] frames = {{3, 1, 7}, {3, 48, 144}, {3, 127, 122}, {3, 128, 137}, {3, 255, 243},
                    {4, 128, 1, 177}, {4, 48, 7, 236}, {1, 1, 1}};
                for (int[] frame : frames) {
                    Bench b = Bench.of("check crc;channel 8;channel 8;channel 8;channel 8").wired(frame).wired(0);
                    due("HEAD " + frame[1], b.on().frame(0, 2), 0);
                    b.on().flip(frame.length - 1, 8);
                    due("HEAD " + frame[1] + ", another CHECK", b.on().frame(0, 2), frame[0] == 1 ? 2 : 3);
                }
                Bench b = Bench.of("check crc;channel 8");
                b.send(0, 7);
                b.send(0);
                b.on().put(1);
                due("one that is put", b.wire(), "4 48 7 236 0");
            });
        sentence("It goes onto the LINE STUFFED, then a 0 (the MARK).", () -> {
            for (int way = PLAIN; way <= REDUCED; way++) {
                String[] names = {"plain", "pairs", "reduced"};
                Bench b = Bench.of("check none;way " + names[way] + ";longest 5;pairs 2;channel 8");
                b.send(0, 0, 0, 9);
                b.send(0);
                b.on().put(2);
                String[] lines = {"2 48 1 2 9 0 2 49 0", "8 48 2 9 0 2 49 0", "2 48 1 9 0 49 0"};
                due("way " + names[way], b.wire(), lines[way]);
            }
        });
    }

    // ---- SENT

    private static void sends() {
        sentence("SENT: a message (120 bytes at most, none too) WAITS in its CHANNEL (8 at most).", () -> {
            Bench b = Bench.of("channel 8;channel 8");
            due("120", b.send(0, Bench.sevens(120)), 1);
            due("121", b.send(0, Bench.sevens(121)), NONE);
            due("none", b.send(0), 2);
            for (int k = 3; k <= 8; k++) {
                due("the " + k + "th", b.send(0, k), k);
            }
            due("the ninth", b.send(0, 9), NONE);
            due("in its CHANNEL", b.send(1, 9), 1);
            due("eight WAIT", b.on().channel(0, 2), 8);
            due("bytes that WAIT", b.on().most(4), 127);
        });
        sentence("It goes in PARTS: as many bytes as a FRAME holds, the rest in the last one (no bytes: one FRAME without"
            + " any);", () -> {
                int[] lengths = {0, 1, 3, 4, 5, 8, 9, 120};
                String[] parts = {"0", "1", "3", "4", "4 1", "4 4", "4 4 1", "4 4 4 4 4 4 4 4"};
                for (int k = 0; k < lengths.length; k++) {
                    Bench b = Bench.of("check none;size 4;channel 8");
                    b.send(0, Bench.sevens(lengths[k]));
                    b.on().put(60);
                    int many = b.on().read(600);
                    String told = "";
                    for (int i = many - 1; i >= 0; i--) {
                        told += (told.isEmpty() ? "" : " ") + b.on().event(i, 3);
                    }
                    due(lengths[k] + " bytes", told, parts[k]);
                    due(lengths[k] + " bytes: put so far", b.on().channel(0, 3), lengths[k] == 120 ? 32 : 0);
                }
            });
        sentence("NUMBERS of a CHANNEL's FRAMES: 0, 1, .., 15, 0, ...", () -> {
            Bench b = Bench.of("check none;channel 8;channel 1");
            for (int k = 0; k <= 17; k++) {
                due("the next NUMBER", b.on().channel(0, 4), k % 16);
                b.on().send(0);
                b.on().put(1);
                due("the NUMBER", b.on().frame(k, 4), k % 16);
                b.on().renew(0);
            }
            b.on().send(1);
            b.on().put(1);
            due("another CHANNEL's own", b.on().frame(18, 3) + " " + b.on().frame(18, 4), "1 0");
        });
        sentence("A FRAME costs one CREDIT.", () -> {
            Bench b = Bench.of("check none;size 1;channel 3");
            b.send(0, 7, 7);
            b.on().send(0);
            b.on().send(0);
            b.on().put(1);
            due("one", b.on().channel(0, 0), 2);
            due("as CREDITS allow", b.on().put(60), 2);
            due("none left", b.on().channel(0, 0), 0);
            due("the last WAITS", b.on().channel(0, 2), 1);
            due("not without one", b.on().put(60), 0);
            due("none below 0", b.on().channel(0, 0), 0);
        });
        picks();
    }

    private static void picks() {
        sentence("PICK: of CHANNELS with something that WAITS and a CREDIT the one with most CREDITS;", () -> {
            Bench b = Bench.of("check none;channel 2;channel 1;channel 8;channel 3");
            due("nothing WAITS", b.on().most(1), NONE);
            b.on().send(0);
            due("not the one with eight: nothing WAITS there", b.on().most(1), 0);
            b.on().send(3);
            b.on().send(1);
            b.on().send(1);
            due("three", b.on().most(1), 3);
            due("all that can go", b.on().put(60), 3);
            due("the order", b.on().frame(0, 3) + " " + b.on().frame(1, 3) + " " + b.on().frame(2, 3), "3 0 1");
            due("something WAITS, without a CREDIT", b.on().channel(1, 2) + " " + b.on().channel(1, 0), "1 0");
            due("none", b.on().most(1), NONE);
        });
        sentence("of several the first behind the CHANNEL that was picked last, going round (at first behind the last"
            + " one).", () -> {
                Bench b = Bench.of("check none;channel 2;channel 2;channel 2;channel 2");
                for (int k = 0; k < 2; k++) {
                    for (int c = 0; c < 4; c++) {
                        b.on().send(c);
                    }
                }
                due("at first", b.on().most(1), 0);
                b.on().put(60);
                String order = "";
                for (int k = 0; k < 8; k++) {
                    order += b.on().frame(k, 3);
                }
                due("going round", order, "01230123");
                b = Bench.of("check none;channel 2;channel 3;channel 2");
                for (int c = 0; c < 3; c++) {
                    b.on().send(c);
                    b.on().send(c);
                }
                b.on().put(1);
                due("the one with most", b.on().rule(10), 1);
                due("the first behind it", b.on().most(1), 2);
                b.on().put(1);
                due("behind the last one", b.on().most(1), 0);
                b = Bench.of("check none;channel 1;channel 1;channel 1");
                b.on().send(2);
                due("at first with one alone", b.on().most(1), 2);
                b.on().send(1);
                due("at first the lower", b.on().most(1), 1);
            });
        sentence("On the LINE there are 600 bytes at most:", () -> {
            Bench b = Bench.filled(596);
            b.send(1, 7);
            due("a FRAME of four", b.on().put(60), 1);
            due("600", b.on().rule(6), 600);
            b.on().send(1);
            due("no more put", b.on().put(60), 0);
            due("no more put in", b.on().insert(0, 7), NONE);
            due("no more by NOISE", b.on().noise(1, Drawn.seedOf(2)), 0);
            due("600 still", b.on().rule(6), 600);
            b = Bench.filled(598);
            b.on().send(1);
            due("a FRAME of three, its MARK counted", b.on().put(60), 0);
            due("598 still", b.on().rule(6), 598);
        });
        sentence("a FRAME for which there is no room is not put, nor any behind it.", () -> {
            Bench b = Bench.filled(597);
            b.send(1, 7);
            String before = b.look();
            due("four bytes of three", b.on().put(1), 0);
            due("nothing changed", b.look(), before);
            b.on().lose(0);
            due("four of four", b.on().put(1), 1);
            b = Bench.filled(586);
            b.on().renew(0);
            b.send(0, Bench.sevens(12));
            b.send(1, 7);
            due("the longer one first", b.on().most(1), 0);
            due("nor the short one behind it", b.on().put(60), 0);
            due("586 still", b.on().rule(6), 586);
            b.on().lose(0);
            due("with one byte more of room that one alone", b.on().put(60), 1);
            due("600", b.on().rule(6), 600);
        });
    }

    // ---- READ

    private static void reads() {
        sentence("READ: byte by byte from the LINE's begin;", () -> {
            Bench b = Bench.of("check none;channel 8").wired(2, 48, 0, 2, 49, 0);
            due("one byte", b.on().read(1), 0);
            due("it is the reader's", b.on().rule(8) + " " + b.wire(), "1 48 0 2 49 0");
            due("one more", b.on().read(1), 0);
            due("the MARK", b.on().read(1), 1);
            due("the next", b.on().read(2), 0);
            due("the next one's MARK", b.on().read(1), 1);
            due("the HEAD", b.event(0), "1 49 2 0 0");
            due("the first HEAD", b.event(1), "1 48 2 0 0");
        });
        sentence("of those ahead of a MARK that are more than 200 the later ones are left out, and what is there is WRONG.",
            () -> {
                Bench b = Bench.without(200);
                b.on().image();
                due("200", b.on().read(600), 1);
                due("200 are read", b.event(0), "4 0 200 195 0");
                b.on().back();
                b.on().insert(200, 1);
                due("201", b.on().read(201), 0);
                due("the reader has 200", b.on().rule(8), 200);
                due("the MARK", b.on().read(1), 1);
                due("the first 200 alone would not be WRONG", b.event(0), "2 -1 200 -1 -1");
                due("nothing is left", b.on().rule(8), 0);
                due("the next one", b.heard(2, 48, 0), 1);
                due("the next one is as ever", b.event(0), "1 48 2 0 0");
            });
        sentence("At a MARK: nothing ahead of it: nothing.", () -> {
            Bench b = Bench.of("check none;channel 8");
            due("MARKS alone", b.heard(0, 0, 0), 0);
            due("no EVENT", b.on().rule(9) + " " + b.event(0), "0 -1 -1 -1 -1 -1");
            due("they are gone", b.on().rule(6), 0);
            due("between FRAMES", b.heard(0, 2, 48, 0, 0, 2, 49, 0, 0), 2);
            due("two in all", b.on().rule(9), 2);
        });
        sentence("Else an EVENT, UNSTUFFED: 2 BROKEN: WRONG;", () -> {
            Bench b = Bench.of("check none;longest 5;channel 8");
            due("too few", b.heard(3, 48, 0), 1);
            due("BROKEN", b.event(0), "2 -1 2 -1 -1");
            due("above L + 1", b.heard(7, 48, 1, 1, 1, 1, 1, 0), 1);
            due("BROKEN", b.event(0), "2 -1 7 -1 -1");
            due("a CODE and its bytes", b.heard(6, 48, 1, 1, 1, 1, 0), 1);
            due("not BROKEN", b.on().event(0, 0), 1);
            b = Bench.of("check none;way reduced;longest 5;channel 8");
            b.heard(3, 48, 0);
            due("reduced: too few are none", b.event(0), "1 48 2 1 0");
            b = Bench.of("check none;way pairs;longest 5;pairs 2;channel 8");
            b.heard(8, 48, 0);
            due("pairs", b.event(0), "1 48 2 2 0");
            b.heard(9, 48, 1, 1, 1, 1, 1, 1, 1, 1, 0);
            due("pairs: above", b.event(0), "2 -1 10 -1 -1");
        });
        sentence("3 BAD: fewer bytes than a HEAD and a CHECK, or the CHECK isn't so;", () -> {
            for (String check : new String[] {"sum", "crc"}) {
                Bench b = Bench.of("check " + check + ";channel 8");
                b.heard(1, 0);
                due(check + ": no bytes", b.event(0), "3 -1 1 -1 -1");
                b.heard(2, 48, 0);
                due(check + ": one byte", b.event(0), "3 -1 2 -1 -1");
                b.heard(1, 1, 0);
                due(check + ": one byte of 0", b.event(0), "3 -1 2 -1 -1");
                b.heard(3, 48, check.equals("sum") ? 48 : 144, 0);
                due(check + ": two bytes", b.event(0), "1 48 3 0 0");
                b.heard(3, 49, 145, 0);
                due(check + ": another CHECK", b.event(0), "3 -1 3 -1 -1");
            }
            Bench b = Bench.of("check none;channel 8");
            b.heard(1, 0);
            due("none: no bytes", b.event(0), "3 -1 1 -1 -1");
            b.heard(2, 48, 0);
            due("none: a HEAD", b.event(0), "1 48 2 0 0");
        });
        sentence("4 STRANGE: no such CHANNEL, a PART longer than size;", () -> {
            Bench b = Bench.of("check none;size 2;channel 8;channel 8");
            b.heard(2, 112, 0);
            due("the last CHANNEL", b.event(0), "1 112 2 0 1");
            b.heard(2, 176, 0);
            due("no such CHANNEL", b.event(0), "4 176 2 0 2");
            b.heard(4, 48, 7, 8, 0);
            due("a PART of size", b.event(0), "1 48 4 2 0");
            b.heard(5, 49, 7, 8, 9, 0);
            due("a longer one", b.event(0), "4 49 5 3 0");
            due("nothing for its CHANNEL", b.channel(0), "8 8 0 0 0 1 0 0 1 0 0 0");
            b = Bench.of("check sum;size 1;channel 8;channel 8;channel 8;channel 8");
            b.heard(3, 240, 240, 0);
            due("CHANNEL 3 of four", b.event(0), "1 240 3 0 3");
            b.heard(3, 241, 240, 0);
            due("BAD ahead of STRANGE", b.event(0), "3 -1 3 -1 -1");
        });
        numbers();
    }

    private static void numbers() {
        sentence("else by its CHANNEL: if its NUMBER isn't the one that is EXPECTED (0 at first), LOST is more by how far it"
            + " is ahead of that (modulo 16),", () -> {
                Bench b = Bench.of("check none;channel 8;channel 8");
                due("0 at first", b.on().channel(0, 5), 0);
                b.heard(2, 48, 0);
                due("it is", b.on().channel(0, 6), 0);
                b.heard(2, 50, 0);
                due("one ahead", b.on().channel(0, 6), 1);
                b.heard(2, 50, 0);
                due("fifteen ahead: 2 of 3", b.on().channel(0, 6), 16);
                b.heard(2, 63, 0);
                due("twelve ahead: 15 of 3", b.on().channel(0, 6), 28);
                b.heard(2, 49, 0);
                due("one ahead: 1 of 0", b.on().channel(0, 6), 29);
                due("the other CHANNEL", b.on().channel(1, 6), 0);
                b.heard(2, 127, 0);
                due("the other CHANNEL: 15 of 0", b.on().channel(1, 6), 15);
            });
        sentence("and what was put together so far is TORN (counted, if there was some FRAME of it);", () -> {
            Bench b = Bench.of("check none;channel 8");
            b.heard(2, 5, 0);
            due("nothing so far", b.on().channel(0, 7), 0);
            b.heard(3, 38, 7, 0);
            due("one FRAME", b.channel(0), "8 8 0 0 0 7 5 0 0 1 1 0");
            b.heard(3, 8, 7, 0);
            due("TORN, and this one is SKIPPED", b.channel(0), "8 8 0 0 0 9 6 1 0 0 0 0");
            due("SKIPPED", b.on().event(0, 0), 5);
            b.heard(3, 20, 7, 0);
            due("nothing so far: TORN no more", b.channel(0), "8 8 0 0 0 5 17 1 0 0 0 0");
            b.heard(2, 37, 0);
            b.heard(2, 24, 0);
            due("a FRAME without bytes is one", b.on().channel(0, 7), 2);
        });
        sentence("the NUMBER behind it is EXPECTED.", () -> {
            Bench b = Bench.of("check none;channel 8");
            b.heard(2, 48, 0);
            due("behind 0", b.on().channel(0, 5), 1);
            b.heard(2, 62, 0);
            due("behind 14", b.on().channel(0, 5), 15);
            b.heard(2, 63, 0);
            due("behind 15", b.on().channel(0, 5), 0);
            int lost = b.on().channel(0, 6);
            b.heard(2, 48, 0);
            due("behind 15 comes 0: nothing is LOST", b.on().channel(0, 6), lost);
            b.heard(2, 5, 0);
            due("also of one that is SKIPPED", b.on().channel(0, 5), 6);
        });
    }

    private static void puttingTogether() {
        sentence("Then a FIRST one: what was put together so far is TORN (likewise), it begins a message;", () -> {
            Bench b = Bench.of("check none;channel 8");
            b.heard(3, 32, 7, 0);
            due("nothing so far", b.channel(0), "8 8 0 0 0 1 0 0 0 1 1 0");
            b.heard(4, 33, 7, 8, 0);
            due("one FRAME is TORN", b.channel(0), "8 8 0 0 0 2 0 1 0 1 2 0");
            b.heard(2, 37, 0);
            due("LOST and FIRST: TORN once", b.channel(0), "8 8 0 0 0 6 3 2 0 1 0 0");
            b.heard(3, 54, 9, 0);
            due("FIRST and LAST", b.channel(0), "8 8 0 0 0 7 3 3 1 0 0 0");
            b.on().take(0);
            due("its own bytes alone", b.hand(), "9");
        });
        sentence("else 5 SKIPPED, if no message was begun,", () -> {
            Bench b = Bench.of("check none;channel 8");
            b.heard(1, 2, 7, 0);
            due("a PART", b.event(0), "5 0 3 1 0");
            b.heard(2, 17, 0);
            due("a LAST one", b.event(0), "5 17 2 0 0");
            due("nothing is put together", b.channel(0), "8 8 0 0 0 2 0 0 0 0 0 0");
            b.heard(2, 50, 0);
            b.heard(2, 19, 0);
            due("behind a LAST one", b.event(0), "5 19 2 0 0");
            b.heard(2, 36, 0);
            b.heard(2, 21, 0);
            due("not behind a FIRST one without bytes", b.event(0), "1 21 2 0 0");
        });
        sentence("or it would have more than 120 bytes by this one (it is TORN then);", () -> {
            Bench b = Bench.filled(64 * 2);
            // both FRAMES are FIRST and LAST ones of 60 bytes: the first is no LAST, the second neither now
            b.on().flip(1, 16);
            b.on().flip(65, 48);
            due("two PARTS", b.on().read(600), 2);
            due("120", b.channel(0), "6 8 0 0 2 2 0 0 0 2 120 0");
            b.on().image();
            b.heard(2, 2, 0);
            due("no byte more is fine", b.event(0) + "; " + b.channel(0), "0 2 2 0 0; 6 8 0 0 2 3 0 0 0 3 120 0");
            b.on().back();
            b.heard(2, 18, 0);
            due("a LAST one of no byte", b.event(0) + "; " + b.channel(0), "1 18 2 0 0; 6 8 0 0 2 3 0 0 1 0 0 0");
            b.on().back();
            b.heard(3, 18, 7, 0);
            due("121", b.event(0) + "; " + b.channel(0), "5 18 3 1 0; 6 8 0 0 2 3 0 1 0 0 0 0");
            b.heard(2, 19, 0);
            due("no message is begun then", b.event(0) + "; " + b.channel(0), "5 19 2 0 0; 6 8 0 0 2 4 0 1 0 0 0 0");
        });
        sentence("it is put behind.", () -> {
            Bench b = Bench.of("check none;channel 8");
            b.heard(4, 32, 1, 2, 0);
            b.heard(2, 1, 0);
            b.heard(3, 2, 3, 0);
            due("so far", b.on().channel(0, 9) + " " + b.on().channel(0, 10), "3 3");
            b.heard(4, 19, 4, 5, 0);
            b.on().take(0);
            due("one behind the other", b.hand(), "1 2 3 4 5");
        });
        sentence("0: a PART; 1: the LAST one: the message is THERE (a ninth THERE: 6: it is TORN instead).", () -> {
            Bench b = Bench.of("check none;channel 8;channel 8");
            b.heard(2, 32, 0);
            due("a PART", b.event(0), "0 32 2 0 0");
            due("not THERE", b.on().channel(0, 8), 0);
            b.heard(2, 17, 0);
            due("the LAST one", b.event(0), "1 17 2 0 0");
            for (int k = 2; k <= 8; k++) {
                b.heard(3, 48 + k, 100 + k, 0);
                due("THERE", b.on().event(0, 0) + " " + b.on().channel(0, 8), "1 " + k);
            }
            b.heard(3, 57, 109, 0);
            due("the ninth", b.event(0), "6 57 3 1 0");
            due("TORN instead", b.channel(0), "8 8 0 0 0 10 0 1 8 0 0 0");
            b.heard(2, 112, 0);
            due("another CHANNEL has room", b.on().event(0, 0), 1);
            due("the first one is THERE still", b.on().take(0), 0);
            b.heard(3, 58, 110, 0);
            due("room again", b.on().event(0, 0) + " " + b.on().channel(0, 8), "1 8");
            String bytes = "";
            for (int k = 0; k < 8; k++) {
                b.on().take(0);
                bytes += b.hand() + " ";
            }
            due("the ninth was not kept", bytes, "102 103 104 105 106 107 108 110 ");
        });
    }

    // ---- TAKEN, RENEWED, ACTS, an IMAGE

    private static void taking() {
        sentence("A message TAKEN from a CHANNEL (the first THERE) gives it back as many CREDITS as it had FRAMES (no more"
            + " than told).", () -> {
                Bench b = Bench.of("check none;size 2;channel 8;channel 2");
                b.send(0, 1, 2, 3, 4, 5);
                b.send(0, 6);
                b.send(0, 7, 8, 9);
                b.on().put(60);
                b.on().read(600);
                due("six are gone", b.on().channel(0, 0), 2);
                due("the first one", b.on().take(0) + ": " + b.hand(), "5: 1 2 3 4 5");
                due("three come back", b.on().channel(0, 0), 5);
                due("the next one", b.on().take(0) + ": " + b.hand(), "1: 6");
                due("one comes back", b.on().channel(0, 0), 6);
                due("the last one", b.on().take(0) + ": " + b.hand(), "3: 7 8 9");
                due("two come back", b.on().channel(0, 0), 8);
                b.heard(2, 54, 0);
                b.on().take(0);
                due("no more than told", b.on().channel(0, 0), 8);
                b.heard(2, 39, 0, 2, 8, 0, 2, 9, 0, 2, 26, 0);
                b.on().send(0);
                b.on().put(1);
                b.on().take(0);
                due("four FRAMES, one CREDIT gone", b.on().channel(0, 0), 8);
                due("the other CHANNEL", b.on().channel(1, 0), 2);
                b.heard(2, 112, 0);
                b.on().take(1);
                due("no more than it was told", b.on().channel(1, 0), 2);
            });
        sentence("RENEWED: a CHANNEL has all CREDITS as told.", () -> {
            Bench b = Bench.of("check none;channel 3;channel 2");
            for (int k = 0; k < 3; k++) {
                b.on().send(0);
                b.on().send(1);
            }
            b.on().put(60);
            due("none", b.on().channel(0, 0) + " " + b.on().channel(1, 0), "0 0");
            due("all", b.on().renew(0), 3);
            due("that one alone", b.on().channel(0, 0) + " " + b.on().channel(1, 0), "3 0");
            b.on().send(0);
            b.on().put(1);
            due("one fewer", b.on().channel(0, 0), 2);
            due("all again", b.on().renew(0), 3);
        });
    }

    private static void acts() {
        sentence("ACTS: send, put, noise of any sort, read, take, renew, if anything was done (noise of which none was done"
            + " is no ACT):", () -> {
                Bench b = Bench.of("check none;channel 8");
                due("none at first", b.on().count(1), 0);
                b.on().put(1);
                b.on().read(1);
                b.on().take(0);
                b.on().renew(0);
                b.on().noise(40, 0);
                b.on().undo();
                due("noise that was done is one", b.on().count(1), 0);
                b.on().noise(1, Drawn.seedOf(0));
                b.on().noise(1, Drawn.seedOf(1));
                b.on().noise(2, Drawn.seedOf(0, 1));
                b.on().flip(0, 1);
                b.on().lose(0);
                b.on().insert(1, 1);
                due("nothing was done", b.on().count(1), 0);
                b.on().send(0);
                due("send", b.on().count(1), 1);
                b.on().put(2);
                due("put", b.on().count(1), 2);
                b.on().flip(0, 1);
                due("flip", b.on().count(1), 3);
                b.on().flip(0, 1);
                b.on().insert(0, 0);
                due("insert", b.on().count(1), 5);
                b.on().lose(0);
                due("lose", b.on().count(1), 6);
                b.on().read(600);
                due("read", b.on().count(1), 7);
                b.on().renew(0);
                due("renew", b.on().count(1), 8);
                b.on().take(0);
                due("take", b.on().count(1), 9);
                b.on().noise(1, Drawn.seedOf(2));
                due("noise", b.on().count(1), 10);
                b.on().put(60);
                b.on().image();
                b.on().fault();
                b.text("x");
                b.on().stuff(0);
                due("these are none", b.on().count(1), 10);
            });
        sentence("the latest 12 can be UNDONE.", () -> {
            Bench b = Bench.of("channel 8");
            for (int k = 1; k <= 14; k++) {
                b.on().insert(k - 1, k);
                due("ACTS", b.on().count(1), Math.min(12, k));
            }
            for (int k = 11; k >= 0; k--) {
                due("undo", b.on().undo(), k);
                due("bytes", b.on().rule(6), k + 2);
            }
            due("a thirteenth", b.on().undo(), NONE);
            due("the first two stay", b.wire(), "1 2");
            b = Bench.of("channel 8");
            for (int k = 0; k < 12; k++) {
                b.on().insert(k, 50 + k);
            }
            for (int k = 0; k < 12; k++) {
                b.on().undo();
            }
            due("twelve of twelve", b.on().rule(6), 0);
            for (int k = 0; k < 30; k++) {
                b.on().insert(0, 9);
                b.on().insert(0, 10);
                b.on().undo();
            }
            due("the one that a thirteenth pushed out is gone", b.on().count(1), 11);
            for (int k = 0; k < 11; k++) {
                b.on().undo();
            }
            due("the nineteen ahead of these", b.on().rule(6), 19);
            due("no more", b.on().undo(), NONE);
        });
        sentence("An IMAGE keeps CHANNELS, the LINE, the reader, EVENTS.", () -> {
            Bench b = Bench.of("check none;size 1;channel 4;channel 2");
            b.send(0, 1, 2, 3);
            b.send(1, 4);
            b.on().put(3);
            b.on().read(5);
            b.on().image();
            String before = b.look();
            String line = b.wire();
            b.on().read(2);
            b.on().flip(0, 1);
            b.on().insert(0, 9);
            b.on().put(60);
            b.on().read(600);
            b.on().renew(0);
            b.send(0, 9);
            b.on().back();
            b.text("");
            due("the LINE", b.wire(), line);
            due("the ACTS were four", before.contains(" 0 4 0 0 ; "), true);
            due("all but ACTS", b.look(), before.replace(" 0 4 0 0 ; ", " 0 0 0 0 ; "));
            b = Bench.without(200);
            b.on().insert(200, 1);
            b.on().read(201);
            b.on().image();
            due("201 ahead of the MARK", b.on().read(1) + " " + b.on().event(0, 0), "1 2");
            b.heard(9, 0);
            b.on().back();
            due("that the reader has too many is kept", b.on().read(1) + " " + b.on().event(0, 0), "1 2");
            b = Bench.without(200);
            b.on().insert(200, 1);
            b.on().read(200);
            b.on().image();
            b.on().read(1);
            b.on().back();
            b.on().lose(0);
            due("that it has not is kept", b.on().read(1) + " " + b.on().event(0, 0), "1 4");
        });
    }

    // ---- HARM, BLIND, FLUSHED

    private static void harming() {
        passed("==== 3.");
        sentence("HARM of a byte of the LINE and v: were that byte added to v without carries (other than 0), all others as"
            + " they are,", () -> {
                Bench b = Bench.of("check none;channel 8;channel 8").wired(2, 48, 0);
                due("v 0", b.on().harm(1, 0), HIDDEN);
                due("to a CHANNEL that is", b.on().harm(1, 64), 0);
                due("48 and 16 is 32: no LAST one", b.on().harm(1, 16), 1);
                due("to a CHANNEL that isn't", b.on().harm(1, 128), 1);
                due("255", b.on().harm(1, 255), 1);
                due("the byte becomes 0", b.on().harm(1, 48), 1);
                due("all is as it was", b.wire(), "2 48 0");
                b.wired(2, 49, 0);
                due("the others as they are", b.on().harm(1, 128), 1);
                due("another's byte", b.on().harm(4, 128), 1);
                due("without carries: 49 and 15 is 62: FIRST and LAST still", b.on().harm(4, 15), 0);
            });
        sentence("and all that is on the LINE read: how many messages fewer (above 0) or more (below) would be THERE than"
            + " without.", () -> {
                Bench b = Bench.of("check none;channel 8").wired(2, 32, 0, 2, 17, 0);
                due("a FIRST one fewer: its LAST one is SKIPPED", b.on().harm(1, 32), 1);
                due("one more: both are messages", b.on().harm(1, 16), 0);
                due("the MARK between", b.on().harm(2, 1), 1);
                due("the last MARK", b.on().harm(5, 1), 1);
                b.on().flip(4, 16);
                due("more would be THERE", b.on().harm(4, 16), -1);
                due("the same", b.on().harm(4, 2), 0);
                b.on().flip(4, 16);
                b.on().read(2);
                due("with what the reader has", b.on().harm(0, 1), 1);
                b.on().read(1);
                due("with what was put together", b.on().harm(1, 16), 1);
                due("nothing is read", b.on().rule(9) + " " + b.on().rule(6), "1 3");
            });
        sentence("BLIND: of a FRAME on the LINE (ended by a MARK there; FRAMES there by their MARKS, those that are not"
            + " empty)", () -> {
                Bench b = Bench.of("check none;channel 8").wired(0, 0, 2, 48, 0, 0, 2, 49);
                due("empty ones are none", b.on().frame(0, 0), 2);
                due("its BLIND", b.on().blind(0), 62);
                due("without a MARK there", b.on().blind(1), NONE);
                due("FRAMES", b.on().rule(7), 1);
                b.wired(0);
                due("with one", b.on().blind(1), 62);
                b.on().read(4);
                due("the reader has all but the MARK", b.on().frame(0, 0), 2);
                due("FRAMES then", b.on().rule(7), 1);
            });
        sentence("how many such pairs of a byte of it (the MARK not) and v (1 .. 255; not so that it becomes 0) leave it one"
            + " that is neither BROKEN, BAD nor STRANGE.", () -> {
                // the CODE: 1 or more than 2 is BROKEN; the HEAD: 1 .. 63 but itself
                due("one CHANNEL", Bench.of("check none;channel 8").wired(2, 48, 0).on().blind(0), 62);
                due("two", Bench.of("check none;channel 8;channel 8").wired(2, 48, 0).on().blind(0), 126);
                due("four", Bench.of("check none;channel 8;channel 8;channel 8;channel 8").wired(2, 48, 0).on().blind(0),
                    254);
                // were the MARK 1, one PART of three bytes would be there
                due("the MARK not", Bench.of("check none;channel 8").wired(2, 48, 0, 2, 49, 0).on().blind(0), 62);
                // 1 is BAD, 2 .. 63 but itself aren't
                due("reduced", Bench.of("check none;way reduced;channel 8").wired(48, 0).on().blind(0), 61);
                due("reduced, four", Bench.of("check none;way reduced;channel 8;channel 8;channel 8;channel 8").wired(48, 0)
                    .on().blind(0), 253);
                due("sum sees each", Bench.of("check sum;channel 8").wired(3, 48, 48, 0).on().blind(0), 0);
                // 3 1 1 is a HEAD of 1 and its sum
                due("sum, but for a CODE", Bench.of("check sum;channel 8").wired(1, 1, 1, 0).on().blind(0), 1);
                // 48, 0, 200; for the 2: 1 is 0, 200, 48; 3 is 48, 200; others stand behind 48, 200; so do all for the 200
                due("reduced, two BLOCKS", Bench.of("check none;way reduced;channel 8").wired(2, 48, 200, 0).on().blind(0),
                    254 + 62 + 254);
                // the CODE 4: 3 leaves 8 for a CODE; 2 leaves 7; the PART's bytes: 254 each
                due("a PART", Bench.of("check none;size 2;channel 8").wired(4, 48, 7, 8, 0).on().blind(0), 62 + 508);
                // CODE 3 for the 2: a HEAD of 48 and a byte of 1, that is no longer than size; the second CODE: none
                due("no longer than size", Bench.of("check none;size 1;channel 8").wired(2, 48, 1, 0).on().blind(0), 63);
                // 2 1 .. and 3 1 2 7: a HEAD of 1 or 0; 1 2 7 is a 0 and 7; the HEAD of 0 has no byte of its own
                due("STRANGE by size", Bench.of("check none;size 1;channel 8").wired(1, 2, 7, 0).on().blind(0), 1 + 0 + 254);
            });
        flushing();
    }

    private static void flushing() {
        sentence("FLUSHED: were all that WAITS put as CREDITS and room allow and all of the LINE read, again and again till"
            + " nothing is put and the LINE is empty (nothing is taken).", () -> {
                Bench b = Bench.of("check none;size 60;longest 60;channel 8;channel 8;channel 3");
                for (int k = 0; k < 8; k++) {
                    b.send(0, Bench.sevens(60));
                    b.send(1, Bench.sevens(60));
                }
                for (int k = 0; k < 4; k++) {
                    b.on().send(2);
                }
                due("room for nine at once, CREDITS for all but one", b.flushed(), "19 0 0 1 19");
                due("nothing was done", b.on().rule(6) + " " + b.on().channel(0, 2) + " " + b.on().rule(9), "0 8 0");
                b.on().put(60);
                b.on().flip(0, 1);
                due("a byte on the LINE", b.flushed(), "18 1 0 1 19");
                b.on().undo();
                b.on().read(600);
                due("of what was read already", b.flushed(), "19 0 0 1 10");
                b = Bench.of("check none;channel 8").wired(2, 32);
                b.on().send(0);
                due("what is put behind a FRAME without a MARK", b.flushed(), "0 0 0 0 1");
                b = Bench.of("check none;channel 8").wired(2, 32, 0, 9);
                due("bytes without a MARK are read", b.flushed(), "0 0 0 0 1");
                b = Bench.of("check none;channel 8");
                due("nothing at all", b.flushed(), "0 0 0 0 0");
                for (int k = 0; k < 8; k++) {
                    b.on().send(0);
                }
                b.on().put(60);
                b.on().read(600);
                b.on().renew(0);
                b.on().send(0);
                due("nothing is taken: a ninth THERE is TORN", b.flushed(), "8 0 1 0 1");
            });
    }

    // ---- DRAWS, NOISE, STATUS

    private static void noiseOf(int n, long seed, int... bytes) {
        Bench b = Bench.of("channel 8").wired(bytes);
        b.on().noise(n, seed);
        due("noise(" + n + ", " + seed + ")", b.wire(), Drawn.noised(n, seed, bytes));
    }

    private static void draws() {
        sentence("DRAWS: a seed (64 bits, at first as told) becomes itself times 6364136223846793005 and"
            + " 1442695040888963407, going round;", () -> {
                long[] seeds = {0, 1, -1, Long.MAX_VALUE, Long.MIN_VALUE, 1L << 32, -(1L << 32), 1L << 63 >> 1};
                for (long seed : seeds) {
                    noiseOf(1, seed, 10, 20, 30, 40, 50);
                    noiseOf(40, seed, 10, 20, 30, 40, 50);
                }
            });
        sentence("a draw of m: its bits from 33 on, without sign, modulo m.", () -> {
            int signs = 0;
            for (long seed = 0; seed < 12; seed++) {
                signs += Drawn.stepped(seed, 1).testBit(63) ? 1 : 0;
                noiseOf(3, seed, 1, 2, 3, 4, 5, 6, 7);
            }
            due("as 64 bits with a sign some would be below 0, some not", signs > 2 && signs < 10, true);
        });
        sentence("NOISE n times: a draw of 3: 0 flip, 1 lose, 2 put in;", () -> {
            int[] lengths = {3, 2, 4};
            for (int sort = 0; sort < 3; sort++) {
                Bench b = Bench.of("channel 8").wired(7, 8, 9);
                due("done", b.on().noise(1, Drawn.seedOf(sort)), 1);
                due("bytes", b.on().rule(6), lengths[sort]);
            }
            Bench b = Bench.of("channel 8").wired(7, 8, 9);
            due("forty times", b.on().noise(40, 3) > 30, true);
            due("forty times", b.wire(), Drawn.noised(40, 3, 7, 8, 9));
        });
        sentence("a draw of how many bytes the LINE has (to put in: and one more): where;", () -> {
            for (int sort = 0; sort < 3; sort++) {
                int places = sort == 2 ? 3 : 2;
                for (int where = 0; where < places; where++) {
                    long seed = 0;
                    while (Drawn.draw(seed, 1, 3) != sort || Drawn.draw(seed, 2, places) != where) {
                        seed++;
                    }
                    int what = Drawn.draw(seed, 3, 255) + 1;
                    String[][] lines = {{(7 ^ what) + " 8", "7 " + (8 ^ what)}, {"8", "7"},
                        {what + " 7 8", "7 " + what + " 8", "7 8 " + what}};
                    Bench b = Bench.of("channel 8").wired(7, 8);
                    b.on().noise(1, seed);
                    due("sort " + sort + " at " + where, b.wire(), lines[sort][where]);
                }
            }
        });
        sentence("flip, put in: a draw of 255 and 1: what it is added to without carries, what it is.", () -> {
            for (int what : new int[] {1, 255}) {
                for (int sort = 0; sort < 3; sort += 2) {
                    long seed = 0;
                    while (Drawn.draw(seed, 1, 3) != sort || Drawn.draw(seed, 3, 255) + 1 != what) {
                        seed++;
                    }
                    Bench b = Bench.of("channel 8").wired(255);
                    b.on().noise(1, seed);
                    String putIn = Drawn.draw(seed, 2, 2) == 0 ? what + " 255" : "255 " + what;
                    due("sort " + sort + ", " + what, b.wire(), sort == 2 ? putIn : Integer.toString(255 ^ what));
                }
            }
        });
        sentence("(With no bytes: flip, lose: no draw but the first; a full LINE: put in likewise.)", () -> {
            for (int sort = 0; sort < 2; sort++) {
                // the second draw is the next one's sort
                long seed = Drawn.seedOf(sort, 2);
                Bench b = Bench.of("channel 8");
                due("no bytes", b.on().noise(1, seed), 0);
                due("no bytes, then put in", b.on().noise(2, seed), 1);
                due("what it is: the fourth draw", b.wire(), Integer.toString(Drawn.draw(seed, 4, 255) + 1));
            }
            Bench b = Bench.filled(600);
            due("a full LINE", b.on().noise(1, Drawn.seedOf(2)), 0);
            long seed = Drawn.seedOf(2, 1);
            int where = Drawn.draw(seed, 3, 600);
            b.on().flip(where, 64);
            int was = b.on().byteAt(where);
            due("a full LINE, then lose", b.on().noise(2, seed), 1);
            due("599", b.on().rule(6), 599);
            due("that byte, by the third draw", b.on().byteAt(where) == was, false);
            due("one of 599 can be put in", b.on().noise(1, Drawn.seedOf(2)), 1);
            due("600", b.on().rule(6), 600);
        });
    }

    private static void statuses() {
        sentence("STATUS: how many calls were refused: 0 no LINE, 1 no such CHANNEL, byte, message, 2 out of bounds,"
            + " 3 full;", () -> {
                Bench b = new Bench();
                due("at first", b.status(), "0 0 0 0");
                b.on().send(0);
                b.on().read(1);
                due("no LINE", b.status(), "2 0 0 0");
                b.text("channel 1");
                b.on().line();
                b.on().renew(1);
                b.on().lose(0);
                b.on().take(0);
                due("no such CHANNEL, byte, message", b.status(), "2 3 0 0");
                b.on().put(61);
                b.on().renew(0);
                due("out of bounds", b.status(), "2 3 2 0");
                for (int k = 0; k < 10; k++) {
                    b.on().send(0);
                }
                due("full", b.status(), "2 3 2 2");
                b.on().put(1);
                b.on().put(1);
                due("what isn't refused", b.status(), "2 3 2 2");
            });
        sentence("of several the first (send, put, flip, lose, insert, noise, read, take, renew alone).", () -> {
            Bench b = new Bench();
            b.tape(Bench.sevens(121));
            b.on().send(9);
            b.on().put(0);
            b.on().flip(9, 0);
            b.on().lose(9);
            b.on().insert(9, 256);
            b.on().noise(0, 0);
            b.on().read(0);
            b.on().take(9);
            b.on().renew(9);
            due("no LINE first", b.status(), "9 0 0 0");
            b.on().fault();
            b.on().line();
            b.on().end(400);
            b.on().rule(50);
            b.on().byteAt(50);
            b.on().hand(50);
            b.throwsNoSuch(50, 50);
            b.on().event(50, 50);
            b.on().stuff(50);
            b.on().unstuff(50);
            b.on().box(50);
            b.on().bound(500);
            b.on().frame(50, 50);
            b.on().harm(50, 500);
            b.on().blind(50);
            b.on().cost(500, 50);
            b.on().share(50, 50);
            b.on().flushed(50);
            b.on().undo();
            b.on().image();
            b.on().back();
            b.on().status(50);
            b.on().most(50);
            b.on().count(50);
            due("those alone", b.status(), "9 0 0 0");
            b = Bench.filled(600);
            b.tape(Bench.sevens(121));
            b.on().send(9);
            b.on().flip(600, 0);
            b.on().insert(601, 256);
            due("no such one ahead of out of bounds", b.status(), "0 3 0 0");
            b.on().insert(600, 256);
            due("out of bounds ahead of full", b.status(), "0 3 1 0");
            b.on().end(0);
            for (int k = 0; k < 8; k++) {
                b.on().send(0);
            }
            b.tape(Bench.sevens(121));
            b.on().send(0);
            due("out of bounds ahead of full", b.status(), "0 3 2 0");
            b.on().end(120);
            b.on().send(0);
            b.on().insert(600, 255);
            due("full", b.status(), "0 3 2 2");
        });
        sentence("The constants: NONE = -1: None; refused.", () -> {
            due("NONE", QuietLine.NONE, -1);
            due("refused", new Bench().on().send(0), QuietLine.NONE);
        });
        sentence("HIDDEN = -1000000: Not told.", () -> {
            due("HIDDEN", QuietLine.HIDDEN, -1000000);
            due("not told", new Bench().on().rule(0), QuietLine.HIDDEN);
        });
    }

    public static void main(String[] args) throws java.io.IOException {
        begin(args);
        section("Terms");
        pieces();
        channels();
        parts();
        faults();
        stuffing();
        stuffingOtherWays();
        unstuffing();
        wrongs();
        frames();
        sends();
        reads();
        puttingTogether();
        taking();
        acts();
        harming();
        draws();
        statuses();
        finish("terms");
    }
}
