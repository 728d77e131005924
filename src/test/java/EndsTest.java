/** Promises 6 to 11: what the ends do. */
public final class EndsTest {
    private static final String OPEN = "open(1, 0) = 0; open(0, 1) = 1; arrive(0) = 1 x 3;";

    public static void main(String[] args) {
        open();
        say();
        sayInStates();
        cry();
        leave();
        quit();
        take();
        takeWidens();
        Check.end("EndsTest");
    }

    private static void open() {
        Check.run("open: wrong arguments", "open(-1, 0) = -1; open(2, 0) = -1; open(0, -1) = -1; open(0, 2) = -1;",
                "count(5) = 0; end(0, 0) = 0; open(0, 0) = 0; open(0, 0) = -2; open(0, 1) = -2; open(0, 2) = -1;",
                "open(2, 5) = -1; end(0, 0) = 1;");
        Check.run("open: it listens", "open(1, 0) = 0; end(1, 0) = 1; end(1, 11) = 0; end(1, 2) = 0; end(1, 16) = -4;",
                "count(5) = 0; count(7) = 0; pass(20) = 20; count(5) = 0;");
        Check.run("open: it connects", "open(1, 1) = 1; end(1, 0) = 2; end(1, 2) = 1; end(1, 11) = 6; end(1, 16) = 0;",
                "letter(0, 0) = 1; letter(0, 1) = 1; letter(0, 2) = 100; letter(0, 3) = -4; count(7) = 1;",
                "open(0, 1) = 2; letter(1, 0) = 0; letter(1, 2) = 250; open(1, 1) = -2; count(7) = 2;");
        Check.run("open: all values as at the start", OPEN, "say(0, 5) = 1; say(0, 6) = 2; cry(0) = 3; arrive(0) = 1 x 2;",
                "sample(0, 0) = 1; end(0, 8) = 3; end(0, 1) = 2; quit(0) = 4; end(0, 1) = 2; end(0, 2) = 3;",
                "end(0, 4) = 1; end(0, 14) = 3; sample(0, 0) = 1; open(0, 0) = 2; end(0, 1) = 0; end(0, 2) = 0;",
                "end(0, 3) = 1; end(0, 4) = 0; end(0, 5) = 0; end(0, 6) = 1; end(0, 7) = 13; end(0, 8) = 6;",
                "end(0, 9) = 0; end(0, 10) = 0; end(0, 14) = 0; sample(0, 0) = -4; end(0, 16) = -4;",
                "end(1, 5) = 2; count(7) = 7; count(6) = 0;");
        Check.run("open: nothing is released", OPEN, "leave(0) = 5; quit(0) = 5; end(0, 13) = 1; open(0, 1) = 3; end(0, 13) = 0;",
                "say(0, 1) = 1;");
        Check.run("open: a SYN that finds the wire full is lost at once", "open(0, 1) = 1;", twice(19),
                "open(1, 1) = 20; end(1, 2) = 1; end(1, 11) = 6; count(7) = 2; count(8) = 1; lose(0) = 19;",
                "leave(1) = 0; open(1, 1) = 20; count(8) = 1; count(7) = 3;");
    }

    /** The first segment is duplicated so often, from one segment on. */
    private static String twice(int n) {
        StringBuilder calls = new StringBuilder();
        for (int k = 2; k <= n + 1; k++) {
            calls.append("twice(0) = ").append(k).append("; ");
        }
        return calls.toString();
    }

    private static void say() {
        Check.run("say: wrong arguments", OPEN, "say(-1, 1) = -1; say(2, 1) = -1; say(0, -1) = -1; say(0, 256) = -1;",
                "end(0, 4) = 0; count(5) = 0; say(0, 255) = 1; byteOf(0, 0) = 255; say(1, 0) = 1; byteOf(1, 0) = 0;");
        Check.run("say: small segments wait", OPEN, "say(0, 1) = 1; count(5) = 1; letter(0, 2) = 251; end(0, 2) = 2;",
                "say(0, 2) = 2; say(0, 3) = 3; say(0, 4) = 4; count(5) = 1; say(0, 5) = 5; count(5) = 2;",
                "letter(1, 5) = 4; letter(1, 2) = 252; end(0, 2) = 6; say(0, 6) = 6; count(5) = 2;",
                "arrive(1) = 1; letter(1, 0) = 1; letter(1, 6) = 1; letter(1, 8) = 252; letter(1, 9) = 0;",
                "letter(1, 3) = 251; arrive(1) = 1; known(0, 1) = 0; known(0, 2) = 1; known(0, 5) = 1; known(0, 6) = 0;",
                "count(5) = 1; arrive(0) = 1; letter(0, 3) = 0; arrive(0) = 1; count(5) = 1; letter(0, 5) = 1;",
                "letter(0, 2) = 0; byteOf(0, 0) = 6; end(0, 4) = 1;");
        Check.run("say: the edge ends it", OPEN, Check.says(0, 1, 14), "count(5) = 3; end(0, 2) = 10; end(0, 3) = 13;",
                "end(0, 4) = 14; lose(0) = 2;");
        Check.run("say: FULL", OPEN, Check.says(0, 1, 32), "say(0, 33) = -3; say(0, 256) = -1; say(2, 3) = -1;",
                "end(0, 4) = 32; arrive(0) = 1; arrive(2) = 1; end(0, 4) = 31; say(0, 33) = 32; say(0, 34) = -3;");
        Check.run("say: NO rather than FULL", OPEN, Check.says(0, 1, 32), "leave(0) = 4; say(0, 33) = -2; say(0, 300) = -1;");
        Check.runWith("p1;b2;f0,0;", "say: NO rather than FULL, BAD rather than NO", "open(0, 1) = 1;", Check.says(0, 1, 32),
                "say(0, 1) = -3; quit(0) = 2; say(0, 1) = -2; say(0, 256) = -1; end(0, 4) = 32;");
    }

    private static void sayInStates() {
        Check.run("say: CLOSED and LISTEN", "say(0, 1) = -2; open(0, 0) = 0; say(0, 1) = -2; end(0, 4) = 0;");
        Check.run("say: SYN_SENT and SYN_RECEIVED", "open(0, 1) = 1; say(0, 1) = 1; say(0, 2) = 2; count(5) = 1;",
                "open(1, 0) = 1; arrive(0) = 1; say(1, 3) = 1; count(5) = 1; arrive(0) = 1; end(0, 0) = 4;",
                "count(5) = 2; letter(0, 5) = 0; letter(1, 5) = 2; byteOf(1, 0) = 1; byteOf(1, 1) = 2;",
                "arrive(0) = 1; end(1, 0) = 4; count(5) = 2; letter(1, 0) = 1; byteOf(1, 0) = 3;");
        Check.run("say: after a release", OPEN, "leave(0) = 5; say(0, 1) = -2; arrive(0) = 1; say(1, 1) = 1;",
                "arrive(0) = 1; end(0, 0) = 6; say(0, 1) = -2; arrive(0) = 1; take(0) = 1; leave(1) = 9;",
                "say(1, 1) = -2; end(1, 4) = 1; arrive(0) = 1; arrive(0) = 1; say(0, 1) = -2;");
        Check.run("say: releasing, but FIN is not sent yet", OPEN, Check.says(0, 1, 20), "leave(0) = 4; say(0, 1) = -2;",
                "end(0, 13) = 1; end(0, 4) = 20; count(5) = 3;");
    }

    private static void cry() {
        Check.run("cry: wrong calls", "cry(-1) = -1; cry(2) = -1; cry(0) = -2; open(0, 0) = 0; cry(0) = -2;");
        Check.run("cry: nothing is written", OPEN, "cry(0) = -2; cry(1) = -2; end(0, 14) = 0; say(0, 1) = 1; cry(0) = 2;",
                "cry(1) = -2; leave(0) = 5; cry(0) = -2; end(0, 14) = 2;");
        Check.run("cry: the urgent number", OPEN, "say(0, 1) = 1; letter(0, 7) = -4; say(0, 2) = 2; say(0, 3) = 3;",
                "cry(0) = 4; end(0, 14) = 4; letter(0, 7) = -4; arrive(0) = 1 x 2; letter(0, 5) = 2; letter(0, 2) = 252;",
                "letter(0, 7) = 254; end(1, 15) = 0; arrive(0) = 1; end(1, 15) = 4; arrive(0) = 1; say(0, 4) = 1;",
                "letter(0, 2) = 254; letter(0, 7) = -4; cry(0) = 5; arrive(0) = 1; end(1, 15) = 4; letter(0, 7) = -4;");
        Check.run("cry: in SYN_SENT, and FIN without an urgent number", "open(0, 1) = 1; say(0, 9) = 1; cry(0) = 2;",
                "open(1, 0) = 1; letter(0, 7) = -4; arrive(0) = 1 x 2; letter(0, 7) = -4; letter(1, 7) = 252;",
                "leave(0) = 5; letter(2, 1) = 6; letter(2, 7) = -4; letter(2, 2) = 252;");
        Check.run("cry: a retransmission has the urgent number of now", OPEN, "say(0, 9) = 1; cry(0) = 2; pass(3) = 3;",
                "count(5) = 2; letter(0, 7) = -4; letter(1, 7) = 252; letter(1, 5) = 1;");
    }

    private static void leave() {
        Check.run("leave: wrong calls", "leave(-1) = -1; leave(2) = -1; leave(0) = -2; leave(1) = -2;");
        Check.run("leave: LISTEN", "open(0, 0) = 0; leave(0) = 0; end(0, 0) = 0; leave(0) = -2; count(7) = 0;");
        Check.run("leave: SYN_SENT", "open(0, 1) = 1; leave(0) = 0; end(0, 11) = 0; count(5) = 1; end(0, 2) = 1;",
                "end(0, 13) = 0; leave(0) = -2; end(0, 16) = 0;");
        Check.run("leave: SYN_RECEIVED", "open(1, 0) = 0; open(0, 1) = 1; arrive(0) = 1; leave(1) = 3; end(1, 13) = 1;",
                "leave(1) = -2; count(5) = 1; arrive(0) = 1 x 2; end(1, 0) = 5; count(5) = 1; letter(0, 1) = 6;");
        Check.run("leave: ESTABLISHED and CLOSE_WAIT", OPEN, "leave(1) = 5; letter(0, 1) = 6; letter(0, 5) = 0;",
                "letter(0, 2) = 101; end(1, 2) = 2; end(1, 16) = 1; leave(1) = -2; arrive(0) = 1; end(0, 0) = 7;",
                "end(0, 17) = 1; end(0, 5) = 2; leave(0) = 9; leave(0) = -2; letter(1, 1) = 6; letter(1, 3) = 102;");
        Check.run("leave: the last bytes take FIN along", OPEN, "say(0, 1) = 1; say(0, 2) = 2; say(0, 3) = 3;",
                "leave(0) = 5; count(5) = 2; letter(1, 5) = 2; letter(1, 1) = 6; end(0, 2) = 5;");
        Check.runWith("p4;b8;", "leave: FIN waits for the edge", OPEN, Check.says(0, 1, 8),
                "count(5) = 2; end(0, 3) = 9; end(0, 2) = 6; leave(0) = 4; end(0, 2) = 9; end(0, 0) = 4; count(5) = 3;",
                "letter(2, 1) = 4; arrive(0) = 1 x 6; end(0, 0) = 4; end(0, 11) = 3; take(1) = 1; take(1) = 2; take(1) = 3;",
                "count(5) = 0; take(1) = 4; count(5) = 1; arrive(0) = 1; end(0, 0) = 5; letter(0, 1) = 6;");
        Check.runWith("p4;b8;", "leave: the bytes and FIN just fit", OPEN, Check.says(0, 1, 7), "leave(0) = 5;",
                "count(5) = 3; letter(2, 5) = 2; letter(2, 1) = 6; end(0, 2) = 9; end(0, 16) = 1;");
        Check.run("leave: both at once", OPEN, "leave(0) = 5; leave(1) = 5; arrive(0) = 1; arrive(0) = 1; end(0, 0) = 8;",
                "end(1, 0) = 8; leave(0) = -2; arrive(0) = 1; arrive(0) = 1; end(0, 0) = 10; end(1, 0) = 10;",
                "leave(1) = -2; end(0, 12) = 10; pass(9) = 9; end(0, 0) = 10; pass(1) = 10; end(0, 0) = 0; end(1, 0) = 0;");
    }

    private static void quit() {
        Check.run("quit: wrong calls", "quit(-1) = -1; quit(2) = -1; quit(0) = -2; quit(1) = -2; count(7) = 0;");
        Check.run("quit: LISTEN and SYN_SENT, no RST", "open(0, 0) = 0; quit(0) = 1; count(5) = 0; quit(0) = -2;",
                "open(1, 1) = 1; quit(1) = 2; count(5) = 1; end(1, 0) = 0; end(1, 11) = 0;");
        Check.run("quit: SYN_RECEIVED", "open(1, 0) = 0; open(0, 1) = 1; arrive(0) = 1; quit(1) = 3; count(5) = 2;",
                "letter(1, 1) = 8; letter(1, 2) = 101; letter(1, 3) = -4; letter(1, 4) = -4; end(1, 11) = 0;");
        Check.run("quit: ESTABLISHED", OPEN, "say(0, 7) = 1; quit(0) = 4; letter(1, 1) = 8; letter(1, 2) = 252;",
                "letter(1, 5) = 0; letter(1, 6) = 0; letter(1, 7) = -4; end(0, 11) = 0; end(0, 2) = 2; arrive(1) = 1;",
                "end(1, 0) = 0; cause(0) = -4;");
        Check.run("quit: FIN_WAIT_1, CLOSE_WAIT", OPEN, "leave(0) = 5; arrive(0) = 1; quit(0) = 5; count(5) = 2;",
                "letter(1, 2) = 252; quit(1) = 7; count(5) = 3; letter(2, 2) = 101; letter(2, 0) = 1;");
        Check.run("quit: FIN_WAIT_2, LAST_ACK", OPEN, "leave(0) = 5; arrive(0) = 1 x 2; leave(1) = 9; count(5) = 1;",
                "quit(0) = 6; count(5) = 2; quit(1) = 9; count(5) = 2; end(1, 0) = 0;");
        Check.run("quit: CLOSING, TIME_WAIT", OPEN, "leave(0) = 5; leave(1) = 5; arrive(0) = 1; arrive(0) = 1;",
                "arrive(0) = 1; end(0, 0) = 10; end(1, 0) = 8; quit(0) = 10; quit(1) = 8; end(0, 12) = 0; count(5) = 1;");
    }

    private static void take() {
        Check.run("take: nothing is there", "take(-1) = -1; take(2) = -1; take(0) = -4; take(1) = -4; open(0, 1) = 1;",
                "take(0) = -4; end(0, 6) = 1;");
        Check.run("take: in order, not the FIN", OPEN, "say(0, 10) = 1; arrive(0) = 1 x 2; say(0, 11) = 1; leave(0) = 5;",
                "count(5) = 2; arrive(0) = 1; take(1) = 10; end(1, 6) = 2; take(1) = 11; end(1, 17) = -4; arrive(0) = 1;",
                "end(1, 17) = 3; end(1, 5) = 4; take(1) = -4; take(1) = -4; end(1, 6) = 3; take(0) = -4;");
        Check.run("take: not before a gap is closed", OPEN, Check.says(0, 1, 5), "arrive(1) = 1; take(1) = -4; arrive(0) = 1;",
                "take(1) = 1; take(1) = 2; take(1) = 3; take(1) = 4; take(1) = 5; take(1) = -4;");
        Check.run("take: also when CLOSED", OPEN, "say(0, 1) = 1; arrive(0) = 1; quit(1) = 4; take(1) = 1; take(1) = -4;");
    }

    private static void takeWidens() {
        Check.run("take: the limit increases by a segment size", OPEN, Check.says(0, 1, 12), "arrive(0) = 1 x 3;",
                "end(1, 7) = 13; end(1, 5) = 10; arrive(0) = 1 x 3; count(5) = 1; arrive(0) = 1; end(1, 5) = 13;",
                "count(5) = 1; arrive(0) = 1; end(0, 3) = 13; take(1) = 1; take(1) = 2; take(1) = 3; end(1, 7) = 13;",
                "count(5) = 0; take(1) = 4; end(1, 7) = 17; count(5) = 1; letter(0, 1) = 4; letter(0, 4) = 4;",
                "letter(0, 2) = 101; letter(0, 3) = 7; take(1) = 5; take(1) = 6; take(1) = 7; end(1, 7) = 17;",
                "take(1) = 8; end(1, 7) = 21; count(5) = 1;");
        Check.runWith("p4;b16;", "take: the window was a segment size, so nothing is sent", OPEN, Check.says(0, 1, 5),
                "arrive(0) = 1 x 2; count(5) = 2; take(1) = 1; take(1) = 2; take(1) = 3; end(1, 7) = 17;",
                "take(1) = 4; end(1, 7) = 21; count(5) = 2; take(1) = 5; take(1) = -4; end(1, 7) = 21;");
        Check.runWith("p3;b6;", "take: the window was less than a segment size", OPEN, Check.says(0, 1, 6),
                "arrive(0) = 1 x 4; end(1, 5) = 5; count(5) = 1; take(1) = 1; take(1) = 2; end(1, 7) = 7;",
                "take(1) = 3; end(1, 7) = 10; count(5) = 2; letter(1, 3) = 5; letter(1, 4) = 5;");
        Check.runWith("p1;b2;", "take: a gain of one is enough", OPEN, "say(0, 1) = 1; say(0, 2) = 2; arrive(0) = 1 x 2;",
                "end(1, 5) = 3; arrive(0) = 1 x 2; count(5) = 0; take(1) = 1; end(1, 7) = 4; count(5) = 1; letter(0, 4) = 1;",
                "take(1) = 2; end(1, 7) = 5; count(5) = 1;");
        Check.runWith("p1;b2;", "take: no ACK in CLOSE_WAIT", OPEN, "say(0, 1) = 1; leave(0) = 5; arrive(0) = 1 x 2;",
                "end(1, 0) = 7; end(1, 5) = 3; count(5) = 2; take(1) = 1; end(1, 7) = 4; count(5) = 2;");
        Check.runWith("p1;b2;", "take: an ACK in FIN_WAIT_1 and FIN_WAIT_2", OPEN, "leave(0) = 5; say(1, 1) = 1;",
                "say(1, 2) = 2; count(5) = 3; arrive(1) = 1 x 2; end(0, 0) = 5; end(0, 5) = 3; count(5) = 3;",
                "take(0) = 1; count(5) = 4; letter(3, 4) = 1; arrive(0) = 1; arrive(3) = 1; end(0, 0) = 6;",
                "end(1, 0) = 7; arrive(0) = 1 x 3; count(5) = 0; say(1, 3) = 1; count(5) = 1; arrive(0) = 1;",
                "count(5) = 1; end(0, 5) = 4; take(0) = 2; end(0, 7) = 5; count(5) = 2; end(0, 0) = 6; take(0) = 3;",
                "end(0, 7) = 6; count(5) = 2; take(0) = -4;");
    }
}
