/** "Segments": what a segment has at least and at most, and a wire of 20. */
public final class SegmentsTest {
    private static final String OPEN = States.OPEN;

    public static void main(String[] args) {
        bytes();
        rangesOfASegment();
        length();
        syn();
        pureAck();
        data();
        urgentNumber();
        reset();
        resetInAnswer();
        wireOrder();
        lostAtOnce();
        lostAtOnceInEveryWay();
        tellsOfNow();
        Check.end("SegmentsTest");
    }

    private static void bytes() {
        Check.runWith("p8;b32;", "0 to (segment size) bytes: 8", OPEN, Check.says(0, 1, 10),
                "count(5) = 2; letter(0, 5) = 1; letter(1, 5) = 8;",
                "byteOf(1, 0) = 2; byteOf(1, 7) = 9; byteOf(1, 8) = -4;");
        Check.runWith("p1;b2;", "0 to (segment size) bytes: 1", OPEN, Check.says(0, 1, 3),
                "count(5) = 2; letter(0, 5) = 1; letter(1, 5) = 1;",
                "byteOf(1, 0) = 2; byteOf(1, 1) = -4;");
        Check.run("0 to (segment size) bytes: none", "open(0, 1) = 1; letter(0, 5) = 0; byteOf(0, 0) = -4;");
        Check.run("the bytes, 0 to 255 each", OPEN, "say(0, 0) = 1; say(1, 255) = 1; byteOf(0, 0) = 0; byteOf(1, 0) = 255; "
                + "arrive(0) = 1;",
                "arrive(0) = 1; take(1) = 0; take(0) = 255;");
    }

    private static void rangesOfASegment() {
        String p1 = OPEN + Check.says(0, 1, 8);
        Check.runWith("p1;b20;f0,0;", "0 to 2 ranges: none", p1, "letter(7, 6) = 0; arrive(0) = 1; letter(7, 6) = 0; "
                + "letter(7, 8) = -4;",
                "letter(7, 9) = -4; letter(7, 10) = -4; letter(7, 11) = -4;");
        Check.runWith("p1;b20;f0,0;", "0 to 2 ranges: one", p1, "arrive(7) = 1; letter(7, 6) = 1; letter(7, 8) = 8; "
                + "letter(7, 9) = 9;",
                "letter(7, 10) = -4; letter(7, 11) = -4;");
        Check.runWith("p1;b20;f0,0;", "0 to 2 ranges: two", p1, "arrive(7) = 1; arrive(5) = 1; letter(7, 6) = 2; "
                + "letter(7, 8) = 6; letter(7, 9) = 7;",
                "letter(7, 10) = 8; letter(7, 11) = 9;");
        Check.runWith("p1;b20;f0,0;", "the lowest two ranges of three", p1, "arrive(7) = 1; arrive(5) = 1; arrive(3) = 1; "
                + "span(1, -1, 0) = 3;",
                "letter(7, 6) = 2; letter(7, 8) = 4; letter(7, 9) = 5; letter(7, 10) = 6; letter(7, 11) = 7; arrive(7) = 1;",
                "known(0, 3) = 0; known(0, 4) = 1; known(0, 5) = 0; known(0, 6) = 1; known(0, 7) = 0; known(0, 8) = 0;");
        Check.run("0 to 2 ranges: none in the next segment", OPEN, Check.says(0, 1, 5),
                "arrive(1) = 1; letter(1, 6) = 1; lose(1) = 1; arrive(0) = 1;",
                "letter(0, 6) = 0; letter(0, 8) = -4; letter(0, 3) = 0; lose(0) = 0; say(1, 1) = 1; letter(0, 6) = 0; "
                        + "letter(0, 8) = -4;");
        Check.run("a segment with ACK has ranges, also a data segment", OPEN, Check.says(0, 1, 5),
                "arrive(1) = 1; say(1, 9) = 1; letter(2, 5) = 1; letter(2, 6) = 1;",
                "letter(2, 8) = 252; letter(2, 9) = 0; lose(1) = 2; arrive(1) = 1; known(0, 1) = 0; known(0, 2) = 1; "
                        + "known(0, 5) = 1;");
    }

    private static void length() {
        String s = "the number of its bytes, plus 1 for SYN, plus 1 for FIN";
        Check.run(s + ": SYN", "open(0, 1) = 1; end(0, 2) = 1; arrive(0) = 0; letter(0, 3) = 251;");
        Check.run(s + ": nothing", OPEN, "end(0, 2) = 1; end(1, 5) = 1;");
        Check.run(s + ": bytes", OPEN, Check.says(0, 1, 5), "end(0, 2) = 6; arrive(0) = 1 x 2; end(1, 5) = 6;");
        Check.run(s + ": FIN", OPEN, "leave(0) = 5; end(0, 2) = 2; arrive(0) = 1; end(1, 5) = 2;");
        Check.run(s + ": bytes and FIN", OPEN, Check.says(0, 1, 3), "leave(0) = 5; letter(1, 1) = 6; letter(1, 5) = 2; "
                + "end(0, 2) = 5;",
                "arrive(0) = 1 x 2; end(1, 5) = 5;");
    }

    private static void syn() {
        Check.run("a SYN: in state SYN_SENT only SYN", "open(1, 1) = 1; letter(0, 0) = 1; letter(0, 1) = 1; "
                + "letter(0, 2) = 100; letter(0, 3) = -4;",
                "letter(0, 4) = -4; letter(0, 5) = 0; letter(0, 6) = 0; letter(0, 7) = -4; end(1, 2) = 1;");
        Check.run("a SYN: flags SYN and ACK", "open(1, 0) = 0; open(0, 1) = 1; arrive(0) = 1; letter(0, 0) = 1; "
                + "letter(0, 1) = 5; letter(0, 2) = 100;",
                "letter(0, 3) = 251; letter(0, 4) = 12; letter(0, 5) = 0; letter(0, 6) = 0; letter(0, 7) = -4; end(1, 2) = 1;");
        Check.run("a SYN has no bytes and no urgent number", "open(0, 1) = 1; say(0, 1) = 1; cry(0) = 2; pass(6) = 6; "
                + "letter(1, 1) = 1; letter(1, 5) = 0;",
                "letter(1, 7) = -4; end(0, 2) = 1;");
    }

    private static void pureAck() {
        Check.run("a pure ACK: the number of sent", OPEN, Check.says(1, 1, 2), "say(0, 1) = 1; arrive(1) = 1; "
                + "letter(1, 0) = 1; letter(1, 1) = 4;",
                "letter(1, 2) = 102; letter(1, 3) = 252; letter(1, 4) = 11; letter(1, 5) = 0; letter(1, 6) = 0; "
                        + "letter(1, 7) = -4; end(1, 2) = 2;");
        Check.run("a pure ACK: the number of sent, with FIN sent", OPEN, "leave(1) = 5; say(0, 1) = 1; arrive(1) = 1; "
                + "letter(1, 2) = 102; letter(1, 5) = 0;");
        Check.run("a pure ACK has no urgent number", OPEN, Check.says(0, 1, 2), "cry(0) = 3; say(1, 1) = 1; arrive(1) = 1; "
                + "letter(1, 0) = 0;",
                "letter(1, 5) = 0; letter(1, 2) = 252; letter(1, 7) = -4;");
    }

    private static void data() {
        String s = "its number is that of its first position";
        Check.run(s, OPEN, Check.says(0, 1, 5), "letter(0, 2) = 251; letter(1, 2) = 252;");
        Check.run(s + " (for FIN alone, that of FIN)", OPEN, Check.says(0, 1, 5), "leave(0) = 5; letter(2, 1) = 6; "
                + "letter(2, 5) = 0; letter(2, 2) = 0;");
        Check.run(s + ", with FIN behind the bytes", OPEN, Check.says(0, 1, 4), "leave(0) = 5; letter(1, 1) = 6; "
                + "letter(1, 5) = 3; letter(1, 2) = 252;");
    }

    private static void urgentNumber() {
        String s = "If its first position is less than urgent";
        Check.run(s + ": urgent is 0", OPEN, "say(0, 1) = 1; letter(0, 7) = -4;");
        Check.run(s + ": less by one", OPEN, "say(0, 1) = 1; cry(0) = 2; pass(3) = 3; letter(1, 2) = 251; letter(1, 7) = 252;");
        Check.run(s + ": equal", "open(1, 0) = 0; open(0, 1) = 1; arrive(0) = 1;", Check.says(0, 1, 4),
                "cry(0) = 5; say(0, 5) = 5; arrive(0) = 1;",
                "end(0, 2) = 5; letter(1, 2) = 251; letter(1, 7) = 255; arrive(0) = 1 x 2; arrive(0) = 1; letter(0, 2) = 255; "
                        + "letter(0, 5) = 1;",
                "letter(0, 7) = -4; end(0, 14) = 5;");
        Check.run(s + ": FIN alone is at urgent at least", OPEN, "say(0, 1) = 1; cry(0) = 2; leave(0) = 5; letter(1, 2) = 252; "
                + "letter(1, 7) = -4;");
        Check.run(s + ": bytes and FIN", OPEN, Check.says(0, 1, 2), "cry(0) = 3; leave(0) = 5; letter(1, 1) = 6; "
                + "letter(1, 2) = 252; letter(1, 7) = 253;");
    }

    private static void reset() {
        Check.run("an RST with a number: only the flag RST", OPEN, Check.says(0, 1, 5),
                "cry(0) = 6; say(1, 1) = 1; arrive(2) = 1; quit(0) = 4;",
                "letter(3, 0) = 0; letter(3, 1) = 8; letter(3, 2) = 0; letter(3, 3) = -4; letter(3, 4) = -4; letter(3, 5) = 0; "
                        + "letter(3, 6) = 0;",
                "letter(3, 7) = -4; letter(3, 8) = -4; letter(3, 11) = -4;");
    }

    private static void resetInAnswer() {
        Check.run("an RST in answer: if that one has ACK, its ack number", OPEN, "say(1, 1) = 1; say(0, 1) = 1; arrive(0) = 1; "
                + "quit(1) = 4;",
                "arrive(0) = 0; cause(0) = 1; count(5) = 3; letter(2, 0) = 1; letter(2, 1) = 8; letter(2, 2) = 101; "
                        + "letter(2, 3) = -4;",
                "letter(2, 4) = -4; letter(2, 6) = 0;");
        Check.run("an RST in answer: otherwise RST and ACK, the window 0, and no ranges",
                "open(1, 1) = 1; arrive(0) = 0; letter(0, 0) = 0;",
                "letter(0, 1) = 12; letter(0, 2) = 0; letter(0, 3) = 101; letter(0, 4) = 0; letter(0, 5) = 0; "
                        + "letter(0, 6) = 0; letter(0, 7) = -4;",
                "letter(0, 8) = -4; letter(0, 9) = -4; letter(0, 10) = -4; letter(0, 11) = -4;");
    }

    private static void wireOrder() {
        Check.run("The wire is empty at first", "count(5) = 0; letter(0, 0) = -1; letter(-1, 0) = -1;");
        Check.run("in the order in which they were sent", OPEN, "say(1, 1) = 1; say(0, 2) = 1; leave(1) = 5; quit(0) = 4; "
                + "count(5) = 4; letter(0, 0) = 1;",
                "byteOf(0, 0) = 1; letter(1, 0) = 0; byteOf(1, 0) = 2; letter(2, 0) = 1; letter(2, 1) = 6; letter(3, 0) = 0; "
                        + "letter(3, 1) = 8;");
        Check.runWith("p1;b32;", "at most 20 segments: the 20th stays, the 21st is lost", OPEN, Check.says(0, 1, 20),
                "count(5) = 20; count(8) = 0;",
                "letter(19, 2) = 20; byteOf(19, 0) = 20; say(0, 21) = 21; count(5) = 20; count(8) = 1; count(7) = 24; "
                        + "letter(19, 2) = 20; letter(20, 2) = -1;");
    }

    private static void lostAtOnce() {
        String full = OPEN + "say(0, 1) = 1;" + States.fill(1);
        Check.run("lost at once: bytes, which are sent and timed", full, "end(1, 2) = 1; say(1, 1) = 1; end(1, 2) = 2; "
                + "end(1, 16) = 1; end(1, 11) = 3;",
                "count(5) = 20; count(7) = 5; count(8) = 1;");
        Check.run("lost at once: FIN, which changes the state", full, "leave(1) = 5; end(1, 2) = 2; end(1, 16) = 1; "
                + "end(1, 11) = 3; count(5) = 20; count(8) = 1;");
        Check.run("lost at once: a retransmission, which counts as one", full, "pass(3) = 3; count(5) = 20; count(7) = 5; "
                + "count(8) = 1; count(9) = 1; end(0, 16) = -4;",
                "end(0, 8) = 6; end(0, 11) = 6;");
        Check.run("lost at once: an RST", full, "quit(1) = 4; end(1, 0) = 0; count(5) = 20; count(7) = 5; count(8) = 1; "
                + "letter(19, 1) = 4;");
        Check.run("lost at once: a SYN", "open(0, 1) = 1;", States.fill(1), "open(1, 1) = 20; end(1, 0) = 2; end(1, 2) = 1; "
                + "end(1, 16) = 0; end(1, 11) = 6; count(8) = 1;");
        Check.run("lost at once: 21 SYNs, and then there is room for one", "open(0, 1) = 1;", States.fill(1),
                "open(1, 1) = 20; quit(1) = 2;".repeat(21), "count(8) = 21; lose(0) = 19; open(1, 1) = 20; count(8) = 21; "
                + "letter(19, 0) = 1; letter(19, 2) = 100;");
        StringBuilder long1400 = new StringBuilder("open(0, 1) = 1;");
        for (int ticks = 100; ticks <= 1400; ticks += 100) {
            long1400.append("pass(100) = ").append(ticks).append(";");
        }
        Check.run("lost at once: retransmissions, and then there is room for a SYN", long1400.toString(),
                "count(9) = 24; count(5) = 20; count(8) = 5; lose(0) = 19; open(1, 1) = 20; letter(19, 0) = 1; "
                + "letter(19, 2) = 100;");
        Check.run("not lost: the answer takes the place of the segment that arrives", full,
                "arrive(0) = 1; count(5) = 20; count(8) = 0; letter(19, 0) = 1;",
                "letter(19, 3) = 252;");
        Check.run("lost at once: the second segment that an arrival brings about", "open(1, 0) = 0; open(0, 1) = 1;",
                Check.says(0, 1, 4), "arrive(0) = 1;",
                States.fill(1), "arrive(0) = 1; end(0, 0) = 4; count(5) = 20; count(8) = 1; letter(19, 5) = 0; end(0, 2) = 5; "
                        + "end(0, 16) = 4;");
    }

    private static void lostAtOnceInEveryWay() {
        String stalled = "p1;b2;";
        Check.runWith(stalled, "lost at once: a probe", OPEN, Check.says(0, 1, 3), "arrive(0) = 1 x 4;", "say(1, 1) = 1;",
                States.fill(1),
                "pass(3) = 3; count(5) = 20; count(8) = 2; end(0, 8) = 6; end(0, 11) = 6; end(0, 2) = 3;");
        Check.runWith(stalled, "lost at once: a window update", OPEN, Check.says(0, 1, 2),
                "arrive(0) = 1 x 4; say(0, 3) = 1; say(0, 4) = 2; say(1, 1) = 1;",
                States.fill(1), "count(8) = 0; take(1) = 1; count(8) = 1; count(5) = 20; end(1, 7) = 4;");
    }

    /** A segment that is sent again is a new segment: it tells what its endpoint expects then. */
    private static void tellsOfNow() {
        String s = "a segment with ACK has as its ack number the number of expected, the window, and the lowest two ranges: ";
        Check.run(s + "a retransmission", OPEN, "say(0, 1) = 1; say(1, 9) = 1; arrive(1) = 1; pass(3) = 3;",
                "letter(0, 2) = 251; letter(0, 3) = 101; letter(0, 4) = 12; letter(2, 0) = 0; letter(2, 1) = 4; letter(2, 2) = 251; "
                + "letter(2, 3) = 102; letter(2, 4) = 11; letter(2, 6) = 0;");
        Check.run(s + "a retransmission when a range is held", OPEN, Check.says(1, 1, 5), "say(0, 7) = 1; arrive(1) = 1; "
                + "pass(3) = 3; letter(1, 2) = 251; letter(1, 6) = 0; letter(1, 4) = 12;",
                "letter(3, 0) = 0; letter(3, 2) = 251; letter(3, 3) = 101; letter(3, 4) = 12; letter(3, 6) = 1; "
                        + "letter(3, 8) = 102; letter(3, 9) = 106;");
        Check.run(s + "FIN", OPEN, Check.says(1, 1, 5), "arrive(1) = 1; leave(0) = 5; letter(2, 1) = 6; letter(2, 5) = 0; "
                + "letter(2, 3) = 101; letter(2, 4) = 12; letter(2, 6) = 1; letter(2, 8) = 102; letter(2, 9) = 106;");
        Check.run(s + "a SYN that is sent again", States.RUNS[3], "pass(6) = 6; letter(1, 0) = 0; letter(1, 1) = 5; "
                + "letter(1, 3) = 101; letter(1, 4) = 12; letter(1, 6) = 0;");
        Check.runWith("p1;b4;", s + "a probe, which is like a pure ACK", OPEN, Check.says(0, 1, 5), Check.says(1, 1, 3),
                "arrive(5) = 1; arrive(0) = 1 x 4; count(5) = 7; arrive(3) = 1 x 4; end(0, 1) = 5; end(0, 2) = 5; lose(2) = 2;",
                "pass(3) = 3; count(5) = 4; letter(2, 0) = 0; letter(2, 1) = 4; letter(2, 2) = 4; letter(2, 3) = 1; "
                        + "letter(2, 4) = 4; letter(2, 5) = 0; letter(2, 6) = 1; letter(2, 8) = 2; letter(2, 9) = 3;");
    }
}
