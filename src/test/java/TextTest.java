/** Promises 1 to 5: a new object, the text, and the configuration. */
public final class TextTest {
    public static void main(String[] args) {
        newObject();
        write();
        wipe();
        fault();
        lay();
        layRefuses();
        Check.end("TextTest");
    }

    private static final String[] START = {
        "end(0, 0) = 0; end(0, 1) = 0; end(0, 2) = 0; end(0, 3) = 1; end(0, 4) = 0; end(0, 5) = 0; end(0, 6) = 1;",
        "end(0, 8) = 6; end(0, 9) = 0; end(0, 10) = 0; end(0, 11) = 0; end(0, 12) = 0; end(0, 13) = 0;",
        "end(0, 14) = 0; end(0, 15) = 0; end(0, 16) = -4; end(0, 17) = -4; sample(0, 0) = -4; span(0, -1, 0) = 0;",
        "end(1, 0) = 0; end(1, 1) = 0; end(1, 2) = 0; end(1, 3) = 1; end(1, 4) = 0; end(1, 5) = 0; end(1, 6) = 1;",
        "end(1, 8) = 6; end(1, 9) = 0; end(1, 10) = 0; end(1, 11) = 0; end(1, 12) = 0; end(1, 13) = 0;",
        "end(1, 14) = 0; end(1, 15) = 0; end(1, 16) = -4; end(1, 17) = -4; sample(1, 0) = -4; span(1, -1, 0) = 0;",
        "count(5) = 0; count(6) = 0; count(7) = 0; count(8) = 0; count(9) = 0; count(10) = 0;",
        "known(0, 0) = 0; known(1, 0) = 0; cause(0) = -4; cause(1) = -4; letter(0, 0) = -1; take(0) = -4;"};

    private static void newObject() {
        Check.run("new object", START);
        Check.run("new object", "count(0) = 4; count(1) = 12; count(2) = 250; count(3) = 100; count(4) = 5;",
                "count(11) = 0; fault() = -4; end(0, 7) = 13; end(1, 7) = 13; calm(0) = 0; wipe() = 0;");
        Check.same("BAD", StreamEnds.BAD, -1);
        Check.same("NO", StreamEnds.NO, -2);
        Check.same("FULL", StreamEnds.FULL, -3);
        Check.same("NONE", StreamEnds.NONE, -4);
    }

    private static void write() {
        Check.run("write", "write(31) = -1; write(127) = -1; write(-1) = -1; write(1000) = -1; count(11) = 0;",
                "write(32) = 1; write(126) = 2; write(65) = 3; count(11) = 3; write(0) = -1; count(11) = 3;");
        StreamEnds x = new StreamEnds();
        for (int k = 1; k <= 200; k++) {
            Check.same("write the " + k + "th", x.write(59), k);
        }
        Check.play("write to a full text", x, "write(59) = -3; write(31) = -1; write(127) = -1; count(11) = 200;",
                "fault() = 0; lay() = -2; wipe() = 200; write(59) = 1;");
    }

    private static void wipe() {
        Check.run("wipe", "wipe() = 0; write(120) = 1; write(120) = 2; fault() = 0; wipe() = 2; count(11) = 0;",
                "wipe() = 0; fault() = -4; write(112) = 1;");
    }

    private static void faultOf(String text, int due) {
        StreamEnds x = new StreamEnds();
        Check.write(x, text);
        Check.same("fault of " + text, x.fault(), due);
        Check.same("fault of " + text + " again", x.fault(), due);
        Check.same("count(0) after fault of " + text, x.count(0), 4);
        if (due != StreamEnds.NONE) {
            Check.same("lay of " + text, x.lay(), StreamEnds.NO);
        }
    }

    private static void fault() {
        String[] right = {"", "p4;", "p1;", "p8;", "p008;", "p08;", "b2;", "b32;", "b032;", "f0,0;", "f255,255;",
            "f000,000;", "f1,002;", "l1;", "l20;", "l020;", "p1;p8;p3;", "l5;f1,2;b9;p4;", "b3;f9,9;b4;l1;l2;l3;"};
        for (String text : right) {
            faultOf(text, StreamEnds.NONE);
        }
        String[] wrong = {"p", "p4", "p0;", "p9;", "p10;", "p;", "p4,4;", "p0004;", "p-1;", "p+1;", "P4;", "p 4;",
            "b1;", "b33;", "b0;", "b999;", "b;", "b2,2;", "f0;", "f0,;", "f,0;", "f,;", "f0,0", "f256,0;", "f0,256;",
            "f0,0,0;", "f0000,0;", "f0,0000;", "f0.0;", "f0;0;", "f0,0,;", "l0;", "l21;", "l;", "l1,1;", "l1", "l",
            "x4;", " ", ";", ",", "4;", "4", "pp4;", "p4 ;", "f0 ,0;", "f0, 0;", "p4:", "p/;", "a1;", "b1;b4;"};
        for (String text : wrong) {
            faultOf(text, 0);
            faultOf("p4;" + text, 3);
            faultOf("l007;f1,1;" + text + "p4;", 10);
        }
        faultOf("p4;;", 3);
        faultOf("p4; b6;", 3);
        faultOf("p4;b6;l1;f0,0", 9);
        faultOf("p4;x;y;", 3);
        faultOf("b16;p4;l99;p0;", 7);
    }

    private static void lay() {
        Check.runWith("", "the configuration of an empty text", START);
        Check.runWith("", "the configuration of an empty text",
                "count(0) = 4; count(1) = 16; count(2) = 0; count(3) = 0; count(4) = 5; end(0, 7) = 17;");
        Check.runWith("l9;p2;p3;f1,2;f7,8;b6;l2;", "of several items the last one counts",
                "count(0) = 3; count(1) = 6; count(2) = 7; count(3) = 8; count(4) = 2; end(0, 7) = 7; end(1, 7) = 7;",
                "count(11) = 25; lay() = 3;");
        Check.runWith("p8;b16;", "lay() answers the segment size", "lay() = 8; count(11) = 7; count(2) = 0;");
        // A busy object is as new after lay(), but for the configuration and the text.
        StreamEnds x = new StreamEnds();
        Check.write(x, "p4;b12;");
        Check.play("a busy object", x, "open(0, 1) = 1; open(1, 0) = 1; arrive(0) = 1; arrive(0) = 1; arrive(0) = 1;",
                "say(0, 1) = 1; say(0, 2) = 2; cry(0) = 3; arrive(0) = 1; arrive(0) = 1; open(0, 0) = -2; pass(9) = 9;",
                "twice(0) = 4; arrive(1) = 1; arrive(0) = 0; cause(0) = 6; count(10) = 1; count(9) = 2;",
                "lay() = 4; count(11) = 7;");
        Check.play("as new after lay()", x, START);
        Check.play("segments are lost at once", x, "open(0, 1) = 1;");
        for (int k = 2; k <= 20; k++) {
            x.twice(0);
        }
        Check.play("segments are lost at once", x, "open(1, 1) = 20; count(8) = 1; leave(0) = 0; lay() = 4;");
        Check.play("as new after lay()", x, START);
        Check.play("as new after lay()", x, "end(0, 7) = 13; end(1, 7) = 13; count(2) = 0; count(3) = 0;");
    }

    private static void layRefuses() {
        StreamEnds x = new StreamEnds();
        Check.write(x, "p4;b7;");
        Check.play("the buffer is too small", x, "open(0, 1) = 1; pass(2) = 2; fault() = -4; lay() = -2; end(0, 0) = 2;",
                "count(5) = 1; count(6) = 2; count(0) = 4; count(1) = 12; count(2) = 250; count(7) = 1; count(11) = 6;");
        Check.write(x, "b8;");
        Check.play("the buffer is just large enough", x, "lay() = 4; count(1) = 8; end(0, 0) = 0; count(5) = 0;");
        Check.write(x, "p9;");
        Check.play("the text has a fault", x, "fault() = 9; lay() = -2; count(1) = 8; wipe() = 12; lay() = 4;");
        Check.runWith("p8;b16;", "before a larger segment size", "write(98) = 8; write(49) = 9; lay() = -2;",
                "write(53) = 10; write(59) = 11; lay() = -2; count(0) = 8; count(1) = 16;");
    }
}
