/** Promises 18 to 25: what can be looked at. */
public final class LookTest {
    private static final String OPEN = "open(1, 0) = 0; open(0, 1) = 1; arrive(0) = 1 x 3;";

    public static void main(String[] args) {
        end();
        sample();
        span();
        known();
        letter();
        byteOf();
        cause();
        count();
        Check.end("LookTest");
    }

    private static void end() {
        Check.run("end: wrong arguments", "end(-1, 0) = -1; end(2, 0) = -1; end(0, -1) = -1; end(0, 18) = -1;",
                "end(1, 18) = -1; end(1, 17) = -4; end(1, 16) = -4;");
        Check.run("end: every value", OPEN, Check.says(0, 1, 7), "cry(0) = 8; pass(2) = 2; arrive(0) = 1 x 2; leave(1) = 5;",
                "arrive(2) = 1; count(5) = 4; leave(0) = 9;",
                "end(0, 0) = 9; end(0, 1) = 6; end(0, 2) = 9; end(0, 3) = 13; end(0, 4) = 2; end(0, 5) = 2; end(0, 6) = 1;",
                "end(0, 7) = 13; end(0, 8) = 4; end(0, 9) = 9; end(0, 10) = 3; end(0, 11) = 4; end(0, 12) = 0;",
                "end(0, 13) = 1; end(0, 14) = 8; end(0, 15) = 0; end(0, 16) = 7; end(0, 17) = 1;",
                "end(1, 0) = 5; end(1, 1) = 1; end(1, 2) = 2; end(1, 3) = 13; end(1, 4) = 0; end(1, 5) = 6; end(1, 6) = 1;",
                "end(1, 7) = 13; end(1, 8) = 3; end(1, 9) = 8; end(1, 10) = 2; end(1, 11) = 3; end(1, 12) = 0;",
                "end(1, 13) = 1; end(1, 14) = 0; end(1, 15) = 0; end(1, 16) = 1; end(1, 17) = -4;");
        Check.run("end: urged and the wait timer", OPEN, "say(0, 1) = 1; cry(0) = 2; pass(3) = 3; arrive(1) = 1;",
                "end(1, 15) = 2; end(0, 15) = 0; end(0, 14) = 2; leave(0) = 5; leave(1) = 5; end(0, 12) = 0;");
    }

    private static void sample() {
        Check.run("sample", "sample(-1, 0) = -1; sample(2, 0) = -1; sample(0, -1) = -1; sample(0, 0) = -4; sample(0, 6) = -4;",
                "sample(1, 1000) = -4;", OPEN, "sample(0, 0) = 1; sample(0, 1) = -4; sample(1, 0) = 1;");
        Check.run("sample: six at the most", OPEN, "say(0, 1) = 1; arrive(0) = 1 x 2; say(0, 1) = 1; arrive(0) = 1 x 2;",
                "say(0, 1) = 1; pass(1) = 1; arrive(0) = 1 x 2; say(0, 1) = 1; pass(2) = 3; arrive(0) = 1 x 2; sample(0, 5) = -4;",
                "say(0, 1) = 1; arrive(0) = 1 x 2; sample(0, 5) = 1; sample(0, 6) = -4; sample(0, 1) = 2; say(0, 1) = 1;",
                "pass(2) = 5; arrive(0) = 1 x 2; sample(0, 5) = 1; sample(0, 6) = -4; sample(0, 0) = 2; sample(0, 1) = 1;",
                "sample(0, 2) = 2; sample(0, 3) = 1; quit(0) = 4; sample(0, 0) = 2; open(0, 0) = 1; sample(0, 0) = -4;");
    }

    private static void span() {
        Check.run("span: wrong arguments", "span(-1, 0, 0) = -1; span(2, 0, 0) = -1; span(0, -2, 0) = -1;",
                "span(0, 0, -1) = -1; span(0, 0, 2) = -1; span(0, -1, 2) = -1; span(0, -1, 0) = 0; span(0, -1, 1) = 0;",
                "span(0, 0, 0) = -4; span(0, 1000, 1) = -4;");
        Check.runWith("p1;b20;f0,0;", "span: in ascending order", OPEN, Check.says(0, 1, 12), "arrive(9) = 1; arrive(3) = 1;",
                "arrive(1) = 1; arrive(2) = 1; span(1, -1, 0) = 3; span(1, -1, 1) = 3; span(1, 0, 0) = 2; span(1, 0, 1) = 3;",
                "span(1, 1, 0) = 4; span(1, 1, 1) = 6; span(1, 2, 0) = 10; span(1, 2, 1) = 11; span(1, 3, 0) = -4;",
                "span(0, -1, 0) = 0; arrive(0) = 1; span(1, -1, 0) = 2; span(1, 0, 0) = 4; end(1, 5) = 3; arrive(0) = 1;",
                "end(1, 5) = 6; span(1, -1, 0) = 1; span(1, 0, 0) = 10; span(1, 0, 1) = 11; span(1, 1, 0) = -4;",
                "quit(1) = 4; span(1, -1, 0) = 1; open(1, 0) = 13; span(1, -1, 0) = 0;");
    }

    private static void known() {
        Check.run("known", "known(-1, 0) = -1; known(2, 0) = -1; known(0, -1) = -1; known(0, 0) = 0; known(0, 100000) = 0;",
                OPEN, Check.says(0, 1, 5), "arrive(1) = 1; arrive(1) = 1; known(0, 0) = 0; known(0, 1) = 0; known(0, 2) = 1;",
                "known(0, 5) = 1; known(0, 6) = 0; known(0, 66) = 0; known(1, 2) = 0; arrive(0) = 1 x 2; known(0, 2) = 0;",
                "known(0, 5) = 0;");
        Check.run("known: opened again", OPEN, Check.says(0, 1, 5), "arrive(1) = 1 x 2; known(0, 2) = 1; quit(0) = 4;",
                "known(0, 2) = 1; open(0, 0) = 2; known(0, 2) = 0;");
        Check.run("known: opened again, and bytes at the same positions", OPEN, Check.says(0, 1, 5), "arrive(1) = 1 x 2; known(0, 2) = 1;",
                "quit(0) = 4; quit(1) = 4; lose(0) = 2; lose(0) = 1; lose(0) = 0;", OPEN, Check.says(0, 1, 5), "known(0, 2) = 0;",
                "known(0, 5) = 0; span(1, -1, 0) = 0;");
    }

    private static void letter() {
        Check.run("letter: wrong arguments", "letter(0, 0) = -1; open(0, 1) = 1; letter(-1, 0) = -1; letter(1, 0) = -1;",
                "letter(0, -1) = -1; letter(0, 12) = -1; letter(1, 12) = -1; letter(0, 11) = -4; letter(0, 0) = 0;");
        Check.run("letter: a data segment", OPEN, Check.says(0, 1, 6), "cry(0) = 7; lose(0) = 1; arrive(0) = 1; arrive(0) = 1;",
                "say(0, 7) = 7; pass(3) = 3; letter(0, 0) = 0; letter(0, 1) = 4; letter(0, 2) = 251; letter(0, 3) = 101;",
                "letter(0, 4) = 12; letter(0, 5) = 1; letter(0, 6) = 0; letter(0, 7) = 1; letter(0, 8) = -4; letter(0, 11) = -4;");
        Check.run("letter: ranges", OPEN, Check.says(0, 1, 5), "arrive(1) = 1; letter(1, 0) = 1; letter(1, 5) = 0; letter(1, 6) = 1;",
                "letter(1, 7) = -4; letter(1, 8) = 252; letter(1, 9) = 0; letter(1, 10) = -4; letter(1, 11) = -4;");
    }

    private static void byteOf() {
        Check.run("byteOf", "byteOf(0, 0) = -1; open(0, 1) = 1; byteOf(0, 0) = -4; byteOf(0, -1) = -1; byteOf(1, 0) = -1;",
                "byteOf(-1, 0) = -1; byteOf(0, 1000) = -4; lose(0) = 0; byteOf(0, 0) = -1;");
        Check.run("byteOf: every byte", OPEN, Check.says(0, 1, 5), "byteOf(0, 0) = 1; byteOf(0, 1) = -4; byteOf(1, 0) = 2;",
                "byteOf(1, 1) = 3; byteOf(1, 2) = 4; byteOf(1, 3) = 5; byteOf(1, 4) = -4; byteOf(1, -1) = -1; byteOf(2, 0) = -1;");
    }

    private static void cause() {
        Check.run("cause", "cause(-1) = -1; cause(0) = -4; cause(5) = -4; open(0, 1) = 1; twice(0) = 2; open(1, 0) = 2;",
                "arrive(0) = 1; cause(0) = -4; arrive(0) = 0; cause(0) = 6; cause(1) = 9; cause(2) = -4; cause(-1) = -1;",
                "pass(1) = 1; lose(1) = 1; cause(0) = 6; arrive(0) = 1; cause(0) = -4; cause(1) = -4; lay() = 4;");
        Check.run("cause: forgotten by lay(), kept when it refuses", "open(0, 1) = 1; arrive(0) = 0; cause(0) = 1;",
                "write(60) = 1; lay() = -2; cause(0) = 1; wipe() = 1; lay() = 4; cause(0) = -4;");
    }

    private static void count() {
        Check.run("count: wrong arguments", "count(-1) = -1; count(12) = -1; count(1000) = -1; count(11) = 0;");
        Check.run("count: every value", OPEN, "write(32) = 1; say(0, 1) = 1; pass(3) = 3; count(0) = 4; count(1) = 12;",
                "count(2) = 250; count(3) = 100; count(4) = 5; count(5) = 2; count(6) = 3; count(7) = 5; count(8) = 0;",
                "count(9) = 1; count(10) = 0; arrive(0) = 1; arrive(0) = 0; count(10) = 1; count(11) = 1; calm(0) = 1;",
                "count(10) = 1; count(7) = 7; twice(0) = 3; count(7) = 7; count(5) = 3; lose(0) = 2; count(7) = 7;");
    }
}
