/** "Configuration", a sentence at a time: the edges of texts, items and their values. */
public final class ConfigurationTest {
    private static final int NONE = StreamEnds.NONE, NO = StreamEnds.NO;

    public static void main(String[] args) {
        atMost200Characters();
        codes();
        anyOrder();
        noItem();
        digits();
        commas();
        semicolons();
        blanks();
        letters();
        lastOneCounts();
        ranges();
        firstFault();
        faultOfAShorterText();
        bufferIsTwiceTheSegment();
        aNewObject();
        layBeginsAgain();
        layRefused();
        wipe();
        Check.end("ConfigurationTest");
    }

    private static void fault(String sentence, String text, int due) {
        StreamEnds x = new StreamEnds();
        Check.write(x, text);
        Check.same(sentence + ": fault() of \"" + text + "\"", x.fault(), due);
        if (due != NONE) {
            Check.same(sentence + ": lay() of \"" + text + "\"", x.lay(), NO);
        }
    }

    private static void wrong(String sentence, String... items) {
        for (String item : items) {
            fault(sentence, item, 0);
            fault(sentence, "p4;" + item, 3);
        }
    }

    /** The configuration that a text sets up: the counts 0 to 4. */
    private static void setsUp(String sentence, String text, int... due) {
        StreamEnds x = new StreamEnds();
        Check.write(x, text);
        String call = sentence + ": \"" + text + "\": ";
        Check.same(call + "fault()", x.fault(), NONE);
        Check.same(call + "lay()", x.lay(), due[0]);
        for (int what = 0; what <= 4; what++) {
            Check.same(call + "count(" + what + ")", x.count(what), due[what]);
        }
        for (int e = 0; e <= 1; e++) {
            Check.same(call + "limit", x.end(e, 7), due[1] + 1);
        }
    }

    private static void atMost200Characters() {
        String s = "a text of at most 200 characters";
        StreamEnds x = new StreamEnds();
        String text = "p4;".repeat(66);
        Check.write(x, text);
        Check.play(s, x, "count(11) = 198; write(112) = 199; write(52) = 200; count(11) = 200; write(59) = -3; fault() = 198;",
                "lay() = -2; wipe() = 200; count(11) = 0; write(112) = 1;");
        setsUp(s, "l12;f1,02;" + "p4;".repeat(62) + "b32;", 4, 32, 1, 2, 12);
    }

    private static void codes() {
        Check.run("codes 32 to 126: the lowest", "write(31) = -1; write(32) = 1; count(11) = 1;");
        Check.run("codes 32 to 126: the highest", "write(127) = -1; write(126) = 1; count(11) = 1;");
        Check.run("codes 32 to 126: far away", "write(-2147483648) = -1; write(2147483647) = -1; write(0) = -1; "
                + "write(-1) = -1;",
                "write(10) = -1; write(128) = -1; write(255) = -1; write(368) = -1; count(11) = 0;");
        for (int code = 32; code <= 126; code++) {
            Check.run("codes 32 to 126", "write(" + code + ") = 1;");
        }
    }

    private static void anyOrder() {
        String[] items = {"p3;", "b20;", "f7,9;", "l11;"};
        for (int a = 0; a < 4; a++) {
            for (int b = 0; b < 4; b++) {
                for (int c = 0; c < 4; c++) {
                    if (a != b && b != c && a != c) {
                        setsUp("in any order", items[a] + items[b] + items[c] + items[6 - a - b - c], 3, 20, 7, 9, 11);
                    }
                }
            }
        }
    }

    private static void noItem() {
        setsUp("perhaps empty", "", 4, 16, 0, 0, 5);
        setsUp("4 if there is no such item", "b9;f1,2;l3;", 4, 9, 1, 2, 3);
        setsUp("(16)", "p3;f1,2;l3;", 3, 16, 1, 2, 3);
        setsUp("(0 and 0)", "p3;b9;l3;", 3, 9, 0, 0, 3);
        setsUp("5 ticks", "p3;b9;f1,2;", 3, 9, 1, 2, 5);
        StreamEnds x = new StreamEnds();
        Check.write(x, "p1;b2;f9,8;l20;");
        Check.play("what there is no item for is not as before", x, "lay() = 1; wipe() = 15; lay() = 4; count(0) = 4; "
                + "count(1) = 16;",
                "count(2) = 0; count(3) = 0; count(4) = 5;");
    }

    private static void digits() {
        String s = "one to three decimal digits";
        wrong(s + ": none", "p;", "b;", "l;", "f,;", "f,1;", "f1,;");
        setsUp(s + ": one", "p3;b6;f1,2;l9;", 3, 6, 1, 2, 9);
        setsUp(s + ": two", "p03;b12;f12,34;l19;", 3, 12, 12, 34, 19);
        setsUp(s + ": three", "p003;b012;f123,234;l019;", 3, 12, 123, 234, 19);
        wrong(s + ": four", "p0003;", "b0012;", "l0019;", "f0123,1;", "f1,0123;", "f0000,0;");
        wrong(s + ": other characters", "p/;", "p:;", "p-1;", "p+1;", "p1.;", "b0x9;", "b1a;", "l1l;", "fa,1;", "f1,a;",
                "f-1,1;", "f1,-1;");
    }

    private static void commas() {
        String s = "',' between two of them";
        wrong(s, "f1;", "f12;", "f1,2,3;", "f1,,2;", "f,1,2;", "f1,2,;", "f1 2;", "f1;2;", "f1.2;", "p4,4;", "b9,;", "l,5;",
                "p4,;");
    }

    private static void semicolons() {
        String s = "and ';'";
        wrong(s, "p4", "b9", "l5", "f1,2", "p", "b", "l", "f", "f1", "f1,", "p4:", "b9,", "f1,2:", ";", "p;", "p4b9;", "p4p4;");
        fault(s, "p4;;", 3);
        fault(s, ";p4;", 0);
    }

    private static void blanks() {
        wrong("There are no blanks", " ", " p4;", "p 4;", "p4 ;", "f1 ,2;", "f1, 2;", "f 1,2;", "f1,2 ;", "b1 2;");
        fault("There are no blanks", "p4; b9;", 3);
        fault("There are no blanks", "p4;b9; ", 6);
    }

    private static void letters() {
        for (char c = 32; c <= 126; c++) {
            if ("pbl".indexOf(c) < 0) {
                wrong("an item is a letter, p, b, f or l", c + "4;");
            }
            if (c != 'f') {
                wrong("an item is a letter, p, b, f or l", c + "4,4;");
            }
        }
    }

    private static void lastOneCounts() {
        String s = "Of several items with the same letter the last one counts";
        setsUp(s, "p8;b2;p1;", 1, 2, 0, 0, 5);
        setsUp(s, "b2;b8;", 4, 8, 0, 0, 5);
        setsUp(s, "f1,2;f3,4;", 4, 16, 3, 4, 5);
        setsUp(s, "l1;l20;l7;", 4, 16, 0, 0, 7);
        setsUp(s, "p4;b12;f250,100;l5;p2;b5;f0,255;l6;", 2, 5, 0, 255, 6);
        fault(s + ", but all of them follow the rules", "p9;p4;", 0);
        fault(s + ", but all of them follow the rules", "p4;p9;p4;", 3);
    }

    private static void ranges() {
        setsUp("the segment size, 1 to 8", "p1;", 1, 16, 0, 0, 5);
        setsUp("the segment size, 1 to 8", "p8;", 8, 16, 0, 0, 5);
        wrong("the segment size, 1 to 8", "p0;", "p00;", "p000;", "p9;", "p09;", "p10;", "p18;", "p999;");
        setsUp("the buffer size, 2 to 32", "p1;b2;", 1, 2, 0, 0, 5);
        setsUp("the buffer size, 2 to 32", "b32;", 4, 32, 0, 0, 5);
        wrong("the buffer size, 2 to 32", "b0;", "b1;", "b01;", "b33;", "b033;", "b132;", "b999;");
        setsUp("the initial numbers, 0 to 255 each", "f0,255;", 4, 16, 0, 255, 5);
        setsUp("the initial numbers, 0 to 255 each", "f255,0;", 4, 16, 255, 0, 5);
        wrong("the initial numbers, 0 to 255 each", "f256,0;", "f0,256;", "f999,0;", "f0,999;", "f256,256;");
        setsUp("the lifetime, 1 to 20 ticks", "l1;", 4, 16, 0, 0, 1);
        setsUp("the lifetime, 1 to 20 ticks", "l20;", 4, 16, 0, 0, 20);
        wrong("the lifetime, 1 to 20 ticks", "l0;", "l00;", "l21;", "l021;", "l120;", "l999;");
    }

    private static void firstFault() {
        String s = "the index of the first character of the first item that does not follow these rules";
        fault(s, "p4;b9;f1,2;l5;", NONE);
        fault(s, "x4;b9;f1,2;l5;", 0);
        fault(s, "p4;b99;f1,2;l5;", 3);
        fault(s, "p4;b9;f1,256;l5;", 6);
        fault(s, "p4;b9;f1,2;l55;", 11);
        fault(s, "p4;b9;f1,2;l5", 11);
        fault(s + ": not the second", "p4;b99;f1,256;l55;", 3);
        fault(s + ": at the end of a full text", "p4;".repeat(66) + "p4", 198);
        fault(s + ": at its last character", "p04;" + "p4;".repeat(65) + "p", 199);
        Check.run("the fault of the text, as it is now", "fault() = -4; write(112) = 1; fault() = 0; write(52) = 2; "
                + "fault() = 0;",
                "write(59) = 3; fault() = -4; write(112) = 4; fault() = 3; wipe() = 4; fault() = -4;");
    }

    /** A shorter text begins as the one before it, which goes on behind its end. */
    private static void faultOfAShorterText() {
        String s = "the fault of the text, as it is now: no character of the one before it";
        String[][] texts = {{"p4;b9;", "p4"}, {"p4;b9;", "p4;b9"}, {"f1,2;", "f1,"}, {"f1,2;", "f1"}, {"l17;", "l1"}};
        for (String[] pair : texts) {
            StreamEnds x = new StreamEnds();
            Check.write(x, pair[0]);
            Check.same(s + ": " + pair[0], x.fault(), NONE);
            x.wipe();
            Check.write(x, pair[1]);
            int due = pair[1].lastIndexOf(';') + 1;
            Check.same(s + ": " + pair[1], x.fault(), due);
            Check.same(s + ": lay() of " + pair[1], x.lay(), NO);
            x.write(';');
            Check.same(s + ": " + pair[1] + ";", x.fault(), pair[1].startsWith("f") ? 0 : NONE);
        }
        Check.run(s + ": an empty text", "write(120) = 1; fault() = 0; wipe() = 1; fault() = -4; lay() = 4;");
    }

    private static void bufferIsTwiceTheSegment() {
        for (int p = 1; p <= 8; p++) {
            setsUp("at least twice its segment size", "p" + p + ";b" + 2 * p + ";", p, 2 * p, 0, 0, 5);
            StreamEnds x = new StreamEnds();
            Check.write(x, p == 1 ? "p2;b3;" : "p" + p + ";b" + (2 * p - 1) + ";");
            Check.play("less than twice its segment size", x, "open(0, 1) = 1; fault() = -4; lay() = -2; count(0) = 4; "
                    + "count(1) = 12;",
                    "count(2) = 250; count(3) = 100; count(4) = 5; count(5) = 1; end(0, 0) = 2; end(0, 7) = 13;");
        }
        StreamEnds x = new StreamEnds();
        Check.write(x, "b7;");
        Check.play("less than twice the segment size that no item tells", x, "fault() = -4; lay() = -2;");
        setsUp("at least twice the segment size that no item tells", "b8;", 4, 8, 0, 0, 5);
    }

    private static void aNewObject() {
        Check.run("At first the configuration is that of the text p4;b12;f250,100;l5;",
                "count(0) = 4; count(1) = 12; count(2) = 250; count(3) = 100; count(4) = 5; end(0, 7) = 13; end(1, 7) = 13;");
        Check.run("(and the text itself is empty)", "count(11) = 0; fault() = -4; wipe() = 0; write(112) = 1;");
        StreamEnds x = new StreamEnds();
        Check.write(x, "p4;b12;f250,100;l5;");
        Check.play("as after lay(), and an empty text", x, States.OPEN, "say(0, 1) = 1; pass(9) = 9; lay() = 4; wipe() = 19;");
        Check.same("as after lay(), and an empty text", Look.at(x).equals(Look.at(new StreamEnds())) ? 1 : 0, 1);
        Check.run("as after lay()", "write(112) = 1; write(52) = 2; write(59) = 3; lay() = 4; count(0) = 4; count(1) = 16; "
                + "count(2) = 0; count(3) = 0; count(4) = 5;");
    }

    /** Both endpoints are at work, segments are on the wire, and none of the counts is 0. */
    private static final String BUSY = "write(112) = 1; write(52) = 2; write(59) = 3;" + States.OPEN
            + "say(0, 1) = 1; say(1, 2) = 1; pass(3) = 3; arrive(2) = 1; arrive(0) = 0;"
            + States.fill(4) + "pass(6) = 9; leave(1) = 5; count(5) = 20; count(10) = 1;";

    private static void layBeginsAgain() {
        Check.run("lay: how it was before", BUSY, "end(0, 0) = 4; end(1, 0) = 5; count(6) = 9; count(7) = 12; count(8) = 3; "
                + "count(9) = 4; cause(0) = 6; cause(1) = 9;");
        Check.run("lay: both endpoints are CLOSED", BUSY, "lay() = 4; end(0, 0) = 0; end(1, 0) = 0; end(0, 11) = 0; "
                + "end(1, 11) = 0; open(0, 0) = 0; open(1, 0) = 0;");
        Check.run("lay: with the values at the start", BUSY, "lay() = 4; end(0, 1) = 0; end(0, 2) = 0; end(0, 3) = 1; "
                + "end(0, 4) = 0; end(0, 5) = 0; end(0, 6) = 1; end(0, 7) = 17; end(0, 8) = 6;",
                "end(0, 9) = 0; end(0, 10) = 0; end(0, 12) = 0; end(0, 13) = 0; end(1, 13) = 0; end(0, 16) = -4; "
                        + "end(1, 16) = -4; sample(0, 0) = -4; sample(1, 0) = -4;");
        Check.run("lay: the wire is empty", BUSY, "lay() = 4; count(5) = 0; letter(0, 0) = -1; arrive(0) = -1; "
                + "open(0, 1) = 1;");
        Check.run("lay: the time is 0", BUSY, "lay() = 4; count(6) = 0; pass(1) = 1;");
        Check.run("lay: the counts 7 to 10 of count() are 0", BUSY, "lay() = 4; count(7) = 0; count(8) = 0; count(9) = 0; "
                + "count(10) = 0;");
        Check.run("lay: the text stays", BUSY, "lay() = 4; count(11) = 3; lay() = 4; wipe() = 3;");
        Check.run("lay: no segment has arrived since", BUSY, "lay() = 4; cause(0) = -4; cause(1) = -4;");
        Check.run("lay: TIME_WAIT and its wait timer are gone", States.RUNS[10], "lay() = 4; end(0, 0) = 0; end(0, 12) = 0; "
                + "calm(0) = 0;");
    }

    private static void layRefused() {
        Check.run("lay: NO if the text has a fault", BUSY, "write(59) = 4; fault() = 3; lay() = -2; count(5) = 20; "
                + "count(6) = 9; end(0, 0) = 4; end(1, 0) = 5; count(11) = 4; cause(0) = 6;");
        Check.run("lay: NO if the buffer size is less than twice the segment size", BUSY,
                "write(98) = 4; write(55) = 5; write(59) = 6; fault() = -4; lay() = -2; count(5) = 20; count(6) = 9;",
                "end(0, 0) = 4; end(1, 0) = 5; count(1) = 12; count(0) = 4; count(2) = 250; count(11) = 6;");
        Check.run("fault: it changes nothing", BUSY, "fault() = -4; count(1) = 12; count(2) = 250; count(5) = 20; "
                + "write(112) = 4; fault() = 3; count(1) = 12; count(2) = 250; count(11) = 4;");
    }

    private static void wipe() {
        Check.run("wipe: how many characters it had: none", "wipe() = 0; wipe() = 0; count(11) = 0;");
        Check.run("wipe: how many characters it had: one", "write(32) = 1; wipe() = 1; wipe() = 0; count(11) = 0;");
        Check.run("wipe: how many characters it had: 200", States.FULL_TEXT, "wipe() = 200; wipe() = 0; write(112) = 1; "
                + "fault() = 0;");
        Check.run("wipe: the configuration stays", BUSY, "wipe() = 3; count(0) = 4; count(1) = 12; count(5) = 20; "
                + "end(0, 0) = 4; lay() = 4; count(1) = 16;");
    }
}
