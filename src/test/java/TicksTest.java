/** "Ticks": what happens in the tick in which a timer becomes 0, and not in the one before. */
public final class TicksTest {
    private static final String OPEN = States.OPEN;

    public static void main(String[] args) {
        order();
        waitTimer();
        expires();
        lowestPosition();
        atMostTheSegmentSize();
        lessThanSent();
        beforeTheNextMarked();
        withFin();
        finIsMarked();
        nothingToSend();
        stalledData();
        probe();
        Check.end("TicksTest");
    }

    private static void order() {
        Check.run("In a tick, the time increases by 1", "pass(1) = 1; pass(2) = 3; count(6) = 3;");
        // What is sent in the tick in which the time becomes 3 is acknowledged when it is 5.
        for (int e = 0; e <= 1; e++) {
            String waits = "open(" + (1 - e) + ", 0) = 0; open(" + e + ", 1) = 1; arrive(0) = 1;" + Check.says(e, 1, 12)
                    + "arrive(0) = 1 x 6; end(" + e + ", 1) = 9; count(5) = 0;";
            Check.runWith("p4;b9;", "In a tick, the time increases by 1. Then, for endpoint 0, and after that for endpoint 1", waits,
                    "pass(3) = 3; count(5) = 1; end(" + e + ", 16) = 9; pass(2) = 5; arrive(0) = 1 x 2; end(" + e
                            + ", 1) = 10; sample(" + e + ", 0) = 2;");
        }
        Check.run("for endpoint 0, and after that for endpoint 1", "open(1, 1) = 1; open(0, 1) = 2; pass(6) = 6; count(5) = 4; "
                + "letter(2, 0) = 0; letter(3, 0) = 1;");
    }

    private static void waitTimer() {
        String timeWait = States.RUNS[10];
        Check.run("if its wait timer is not 0, it decreases by 1", timeWait, "end(0, 12) = 10; pass(1) = 1; end(0, 12) = 9; "
                + "pass(8) = 9; end(0, 12) = 1; end(0, 0) = 10;");
        Check.run("if it is 0 then, the state becomes CLOSED", timeWait, "pass(9) = 9; end(0, 0) = 10; pass(1) = 10; "
                + "end(0, 12) = 0; end(0, 0) = 0;");
        Check.runWith("l1;", "twice the lifetime: 1", timeWait, "end(0, 12) = 2; pass(1) = 1; end(0, 0) = 10; pass(1) = 2; "
                + "end(0, 0) = 0;");
        Check.runWith("l20;", "twice the lifetime: 20", timeWait, "end(0, 12) = 40; pass(39) = 39; end(0, 0) = 10; "
                + "end(0, 12) = 1; pass(1) = 40; end(0, 0) = 0;");
        Check.run("the wait timer stays 0 elsewhere", OPEN, "pass(9) = 9; end(0, 12) = 0; end(0, 0) = 4; end(1, 0) = 4;");
    }

    private static void expires() {
        Check.run("if its timer is not 0, it decreases by 1, and if it is 0 then, it has expired", OPEN,
                "say(0, 1) = 1; end(0, 11) = 3; pass(1) = 1; end(0, 11) = 2;",
                "pass(1) = 2; end(0, 11) = 1; count(5) = 1; count(9) = 0; pass(1) = 3; count(5) = 2; count(9) = 1; "
                        + "end(0, 11) = 6;");
        Check.run("a timer of 0 does not expire", OPEN, "pass(100) = 100; count(5) = 0; count(9) = 0; end(0, 8) = 3;");
    }

    private static void lowestPosition() {
        String s = "let x be the lowest position from acked on, less than sent, that is not marked: ";
        Check.run(s + "0, a SYN in state SYN_SENT", "open(0, 1) = 1; pass(6) = 6; letter(1, 1) = 1; letter(1, 2) = 250; "
                + "end(0, 2) = 1; count(9) = 1;");
        Check.run(s + "0, a SYN in state SYN_RECEIVED", States.RUNS[3], "pass(6) = 6; letter(1, 0) = 0; letter(1, 1) = 5; "
                + "letter(1, 2) = 250; letter(1, 3) = 101; count(9) = 2;");
        Check.run(s + "acked", OPEN, Check.says(0, 1, 5), "lose(1) = 1; lose(0) = 0; pass(3) = 3; letter(0, 2) = 251;");
        Check.runWith("p1;b20;", s + "acked, when the next are marked", OPEN, Check.says(0, 1, 4),
                "arrive(1) = 1; arrive(3) = 1; lose(1) = 2; lose(1) = 1; pass(3) = 3;",
                "letter(1, 2) = 1; known(0, 2) = 1;");
        Check.runWith("p1;b20;f0,0;", s + "behind what is marked", OPEN, Check.says(0, 1, 4), OLD_KNOWLEDGE);
        Check.runWith("p1;b20;f0,0;", s + "behind one that is marked", OPEN, Check.says(0, 1, 4), ONE_KNOWN);
    }

    /** An old segment that acknowledges byte 1 is on the wire before those of the bytes 1 to 4. */
    private static final String OLD_NEWS = "arrive(0) = 1; count(5) = 4; arrive(0) = 1 x 2; letter(1, 3) = 2; "
            + "lose(3) = 3; lose(2) = 2; lose(0) = 1;"
            + "quit(0) = 4; quit(1) = 4; lose(2) = 2; lose(1) = 1;" + States.OPEN_AGAIN + Check.says(0, 1, 4) + "count(5) = 5;";

    /** Byte 1 is acknowledged by an old segment, while 2 is known to be held, but 3 is not. */
    private static final String ONE_KNOWN = OLD_NEWS + "arrive(2) = 1; arrive(4) = 1; known(0, 2) = 1; known(0, 3) = 0; "
            + "letter(0, 3) = 2; arrive(0) = 1; end(0, 1) = 2; known(0, 2) = 1; end(0, 2) = 5; pass(3) = 3; letter(3, 2) = 3; "
            + "letter(3, 5) = 1; byteOf(3, 0) = 3;";

    /** Byte 1 is acknowledged by an old segment, while 2 and 3 are known to be held, but 4 is not. */
    private static final String OLD_KNOWLEDGE = OLD_NEWS + "arrive(2) = 1; arrive(2) = 1; count(5) = 5; arrive(4) = 1; known(0, 2) = 1; known(0, 3) = 1; "
                    + "known(0, 4) = 0; end(0, 1) = 1;"
            + "letter(0, 3) = 2; arrive(0) = 1; end(0, 1) = 2; known(0, 2) = 1; end(0, 2) = 5;"
            + "pass(3) = 3; letter(3, 2) = 4; letter(3, 5) = 1;";

    private static void atMostTheSegmentSize() {
        Check.run("at most as many as the segment size", OPEN, Check.says(0, 1, 9), "lose(0) = 2; pass(3) = 3; "
                + "letter(2, 2) = 251; letter(2, 5) = 4; byteOf(2, 3) = 4;");
        Check.runWith("p1;b20;", "at most as many as the segment size: 1", OPEN, Check.says(0, 1, 9),
                "pass(3) = 3; letter(9, 2) = 1; letter(9, 5) = 1;");
    }

    private static void lessThanSent() {
        Check.run("at positions less than sent", OPEN, "say(0, 1) = 1; say(0, 2) = 2; pass(3) = 3; end(0, 2) = 2; "
                + "letter(1, 2) = 251; letter(1, 5) = 1;");
    }

    private static void beforeTheNextMarked() {
        Check.runWith("p3;b20;f0,0;", "less than the next marked position: by 1", OPEN, Check.says(0, 1, 7),
                "arrive(1) = 1; arrive(2) = 1; known(0, 2) = 1; pass(3) = 3;",
                "letter(2, 2) = 1; letter(2, 5) = 1;");
        Check.runWith("p3;b20;f0,0;", "less than the next marked position: further on", OPEN, Check.says(0, 1, 7),
                "arrive(2) = 1; arrive(2) = 1; known(0, 5) = 1; known(0, 4) = 0;",
                "pass(3) = 3; letter(2, 2) = 1; letter(2, 5) = 3; lose(2) = 2; lose(1) = 1; arrive(0) = 1; arrive(0) = 1; "
                        + "end(0, 1) = 2; pass(6) = 9;",
                "letter(0, 2) = 2; letter(0, 5) = 3;");
    }

    private static void withFin() {
        String s = "with FIN, if it has been sent, is the next position after these bytes (or x itself): ";
        Check.run(s + "after a byte", OPEN, "say(0, 1) = 1; leave(0) = 5; lose(1) = 1; lose(0) = 0; pass(3) = 3; "
                + "letter(0, 1) = 6; letter(0, 5) = 1;");
        Check.run(s + "after a whole segment", OPEN, Check.says(0, 1, 4), "leave(0) = 5; lose(1) = 1; lose(0) = 0; "
                + "pass(3) = 3; letter(0, 1) = 6; letter(0, 5) = 4;");
        Check.run(s + "not next", OPEN, Check.says(0, 1, 5), "leave(0) = 5; pass(3) = 3; letter(3, 1) = 4; letter(3, 5) = 4;");
        Check.run(s + "x itself", OPEN, "leave(0) = 5; pass(3) = 3; letter(1, 1) = 6; letter(1, 5) = 0; letter(1, 2) = 251; "
                + "count(9) = 1;");
        Check.runWith("p4;b8;", s + "not sent yet", States.RUNS[3], Check.says(0, 1, 8),
                "leave(0) = 3; arrive(0) = 1 x 2; count(5) = 2; end(0, 2) = 9; end(0, 0) = 4; lose(0) = 1;",
                "arrive(0) = 1; arrive(0) = 1; known(0, 5) = 1; pass(6) = 6; letter(0, 2) = 1; letter(0, 5) = 4; "
                        + "letter(0, 1) = 4;");
    }

    /** Endpoint 1 holds the bytes 2 to 5 of an old connection, so FIN at position 2 seems to be held. */
    private static final String OLD_BYTES = Check.says(0, 1, 5) + "quit(0) = 4; quit(1) = 4; lose(3) = 3; lose(2) = 2; "
            + "lose(0) = 1;" + States.OPEN_AGAIN
            + "arrive(0) = 1; letter(0, 6) = 1;";

    private static void finIsMarked() {
        Check.run("with FIN, if it is not marked: it is marked", OPEN, OLD_BYTES, "say(0, 1) = 1; leave(0) = 5; end(0, 2) = 3; "
                + "arrive(0) = 1; known(0, 2) = 1; pass(3) = 3;",
                "letter(2, 2) = 251; letter(2, 5) = 1; letter(2, 1) = 4;");
        Check.run("with FIN, if it is not marked: it is not", OPEN, OLD_BYTES, "lose(0) = 0; say(0, 1) = 1; leave(0) = 5; "
                + "end(0, 2) = 3; pass(3) = 3;",
                "letter(2, 2) = 251; letter(2, 5) = 1; letter(2, 1) = 6;");
    }

    private static void nothingToSend() {
        Check.runWith("p1;b20;f0,0;", "If there is no such x, nothing is sent, and the timed position stays", States.ALL_MARKED,
                "pass(3) = 3; count(5) = 2; count(7) = 19;",
                "end(0, 16) = 4; count(9) = 0;");
        Check.runWith("p1;b20;f0,0;", "In both cases the timeout then doubles, and the timer is adjusted", States.ALL_MARKED,
                "pass(2) = 2; end(0, 8) = 3; end(0, 11) = 1; pass(1) = 3;",
                "end(0, 8) = 6; end(0, 11) = 6;");
    }

    private static void stalledData() {
        String s = "if sent is less than edge, a data segment with the next unsent bytes is sent, at positions less than edge, and sent increases";
        for (int room = 1; room <= 3; room++) {
            int size = 8 + room;
            Check.runWith("p4;b" + size + ";", s + ": room for " + room, States.RUNS[3], Check.says(0, 1, 12),
                    "arrive(0) = 1 x 2; end(0, 2) = 9; end(0, 3) = " + (size + 1) + ";",
                    "arrive(0) = 1 x 4; end(0, 1) = 9; end(0, 2) = 9; end(0, 11) = 3; pass(2) = 2; count(5) = 0; pass(1) = 3; "
                            + "count(5) = 1; letter(0, 5) = " + room + ";",
                    "letter(0, 1) = 4; letter(0, 2) = 9; end(0, 2) = " + (size + 1) + "; end(0, 16) = " + size
                            + "; count(9) = 0; end(0, 8) = 6; end(0, 11) = 6;");
        }
    }

    private static void probe() {
        String s = "if sent is not less than edge, a probe is sent";
        Check.runWith("p4;b8;", s, States.RUNS[3], Check.says(0, 1, 12), "arrive(0) = 1 x 2; arrive(0) = 1 x 4; end(0, 1) = 9; "
                + "end(0, 2) = 9; end(0, 3) = 9; pass(2) = 2;",
                "count(5) = 0; pass(1) = 3; count(5) = 1; letter(0, 1) = 4; letter(0, 2) = 8; letter(0, 3) = 1; "
                        + "letter(0, 4) = 8; letter(0, 5) = 0; letter(0, 7) = -4;",
                "end(0, 2) = 9; end(0, 16) = -4; count(9) = 0; end(0, 8) = 6; end(0, 11) = 6;");
        Check.runWith("p4;b8;", s + ": only FIN waits", States.RUNS[3], Check.says(0, 1, 8),
                "leave(0) = 3; arrive(0) = 1 x 2; arrive(0) = 1 x 4; end(0, 0) = 4; pass(3) = 3;",
                "count(5) = 1; letter(0, 1) = 4; letter(0, 2) = 8; letter(0, 5) = 0; end(0, 0) = 4;");
    }
}
