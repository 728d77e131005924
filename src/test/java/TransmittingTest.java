/** "Transmitting": when a segment is just sent, and when it just is not. */
public final class TransmittingTest {
    private static final String OPEN = States.OPEN;
    /** The last segment of a handshake is to come, so that what has been said is not transmitted yet. */
    private static final String HALF_OPEN = "open(1, 0) = 0; open(0, 1) = 1; arrive(0) = 1;";

    public static void main(String[] args) {
        statesThatTransmit();
        wholeSegments();
        smallSegments();
        theEdge();
        finWithBytes();
        finAlone();
        statesAfterFin();
        repeated();
        stalled();
        Check.end("TransmittingTest");
    }

    private static void statesThatTransmit() {
        String s = "To transmit means the following for an endpoint in state ESTABLISHED or CLOSE_WAIT; "
                + "otherwise nothing happens: ";
        Check.run(s + "SYN_SENT", "open(0, 1) = 1;", Check.says(0, 1, 8), "count(5) = 1; end(0, 2) = 1;");
        Check.run(s + "SYN_RECEIVED", States.RUNS[3], Check.says(0, 1, 8), "count(5) = 1; end(0, 2) = 1; leave(0) = 3; "
                + "count(5) = 1; end(0, 2) = 1;");
        Check.run(s + "ESTABLISHED", OPEN, "say(0, 1) = 1; count(5) = 1; end(0, 2) = 2;");
        Check.run(s + "CLOSE_WAIT", States.RUNS[7], "count(5) = 1; say(0, 1) = 1; count(5) = 2; end(0, 2) = 2;");
    }

    private static void wholeSegments() {
        String s = "If n is the segment size";
        Check.run(s + ", also when acked is not sent", OPEN, "say(0, 1) = 1;", "say(0, 2) = 2; say(0, 3) = 3; say(0, 4) = 4; "
                + "count(5) = 1; end(0, 2) = 2;",
                "say(0, 5) = 5; count(5) = 2; end(0, 2) = 6; end(0, 1) = 1;");
        Check.run(s + ", also when it is not all unsent bytes", HALF_OPEN, Check.says(0, 1, 5),
                "arrive(0) = 1; count(5) = 2; letter(1, 5) = 4; end(0, 2) = 5;");
        Check.runWith("p1;", s + ": 1", OPEN, "say(0, 1) = 1; say(0, 2) = 2; count(5) = 2;");
        Check.runWith("p8;", s + ": 8", OPEN, Check.says(0, 1, 8), "count(5) = 1; say(0, 9) = 9; count(5) = 2; "
                + "letter(1, 5) = 8;");
    }

    private static void smallSegments() {
        String s = "if n is at least 1, equals the number of unsent bytes, and either acked equals sent or the endpoint is releasing";
        Check.run(s + ": acked equals sent, n is 1", OPEN, "say(0, 1) = 1; count(5) = 1; letter(0, 5) = 1;");
        Check.run(s + ": acked equals sent, n is the segment size - 1", HALF_OPEN, Check.says(0, 1, 3),
                "arrive(0) = 1; count(5) = 2; letter(1, 5) = 3;");
        Check.run(s + ": acked is less than sent by 1", OPEN, "say(0, 1) = 1; say(0, 2) = 2; say(0, 3) = 3; say(0, 4) = 4; "
                + "count(5) = 1; end(0, 2) = 2;");
        Check.run(s + ": acked becomes sent", OPEN, "say(0, 1) = 1; say(0, 2) = 2; arrive(0) = 1; count(5) = 1; arrive(0) = 1; "
                + "count(5) = 1; letter(0, 5) = 1;",
                "byteOf(0, 0) = 2;");
        Check.run(s + ": releasing", OPEN, "say(0, 1) = 1; say(0, 2) = 2; count(5) = 1; leave(0) = 5; count(5) = 2; "
                + "letter(1, 5) = 1; end(0, 1) = 1;");
        Check.run(s + ": n is 0", OPEN, "say(0, 1) = 1; arrive(0) = 1 x 2; count(5) = 0; end(0, 1) = 2; end(0, 2) = 2;");
    }

    private static void theEdge() {
        String s = "the least of the segment size, the number of unsent bytes, and edge - sent";
        Check.runWith("p3;b6;", s + ": edge - sent is a whole segment", HALF_OPEN, Check.says(0, 1, 9),
                "arrive(0) = 1; end(0, 3) = 7; end(0, 2) = 7; count(5) = 3;");
        Check.runWith("p3;b7;", s + ": edge - sent is 1 then, and not all unsent bytes", HALF_OPEN, Check.says(0, 1, 9),
                "arrive(0) = 1; end(0, 3) = 8;",
                "end(0, 2) = 7; count(5) = 3;");
        Check.runWith("p3;b7;", s + ": edge - sent is 1 then, which is all unsent bytes, and acked is less", HALF_OPEN,
                Check.says(0, 1, 7), "arrive(0) = 1;",
                "end(0, 3) = 8; end(0, 2) = 7; count(5) = 3; arrive(0) = 1 x 5; end(0, 1) = 7; end(0, 2) = 8; end(0, 3) = 8;");
        Check.runWith("p3;b8;", s + ": not sent though acked equals sent", HALF_OPEN, Check.says(0, 1, 9),
                "arrive(0) = 1; end(0, 3) = 9; end(0, 2) = 7;",
                "arrive(0) = 1 x 5; end(0, 1) = 7; end(0, 2) = 7; end(0, 11) = 3;");
        Check.runWith("p3;b8;", s + ": not sent though it is releasing", HALF_OPEN, Check.says(0, 1, 9), "leave(0) = 0;",
                "end(0, 0) = 0;");
        Check.runWith("p3;b8;", s + ": not sent though it is releasing", OPEN, Check.says(0, 1, 10),
                "leave(0) = 4; end(0, 2) = 8; end(0, 3) = 9; count(5) = 3;");
        Check.runWith("p4;b8;", s + ": 0", HALF_OPEN, Check.says(0, 1, 9), "arrive(0) = 1; end(0, 2) = 9; end(0, 3) = 9; "
                + "count(5) = 3;");
    }

    private static void finWithBytes() {
        String s = "it has FIN, too, if the endpoint is releasing, n is the number of unsent bytes, and sent + n is less than edge";
        Check.runWith("p4;b8;", s + ": less by 1", OPEN, Check.says(0, 1, 7), "leave(0) = 5; count(5) = 3; letter(2, 5) = 2; "
                + "letter(2, 1) = 6; end(0, 2) = 9; end(0, 3) = 9;");
        Check.runWith("p4;b8;", s + ": equal", OPEN, Check.says(0, 1, 8), "leave(0) = 4; count(5) = 3; letter(2, 5) = 3; "
                + "letter(2, 1) = 4; end(0, 2) = 9; end(0, 3) = 9;",
                "end(0, 0) = 4;");
        Check.runWith("p4;b16;", s + ": a whole segment", States.RUNS[3], Check.says(0, 1, 4),
                "leave(0) = 3; arrive(0) = 1; arrive(0) = 1; end(0, 0) = 5;",
                "count(5) = 1; letter(0, 5) = 4; letter(0, 1) = 6; end(0, 2) = 6;");
        Check.runWith("p4;b16;", s + ": a whole segment, but not all unsent bytes", States.RUNS[3], Check.says(0, 1, 5),
                "leave(0) = 3; arrive(0) = 1;",
                "arrive(0) = 1; end(0, 0) = 5; count(5) = 2; letter(0, 5) = 4; letter(0, 1) = 4; letter(1, 5) = 1; "
                        + "letter(1, 1) = 6; end(0, 2) = 7;");
        Check.run(s + ": not releasing", OPEN, "say(0, 1) = 1; letter(0, 1) = 4; end(0, 0) = 4;");
    }

    private static void finAlone() {
        String s = "If there are no unsent bytes, the endpoint is releasing, and sent is less than edge, a segment with FIN alone is sent";
        Check.run(s + ": no byte at all", OPEN, "leave(0) = 5; count(5) = 1; letter(0, 1) = 6; letter(0, 5) = 0; "
                + "end(0, 2) = 2;");
        Check.runWith("p1;b2;", s + ": less by 1", OPEN, "say(0, 1) = 1; leave(0) = 5; count(5) = 2; letter(1, 1) = 6; "
                + "letter(1, 5) = 0; end(0, 2) = 3; end(0, 3) = 3;");
        Check.runWith("p1;b2;", s + ": equal", OPEN, "say(0, 1) = 1; say(0, 2) = 2; leave(0) = 4; count(5) = 2; end(0, 2) = 3; "
                + "end(0, 3) = 3;");
        Check.run(s + ": not releasing", OPEN, "count(5) = 0; end(0, 0) = 4;");
        Check.runWith("p1;b2;", s + ": when the edge moves", OPEN, "say(0, 1) = 1; say(0, 2) = 2; leave(0) = 4; "
                + "arrive(0) = 1 x 2; arrive(0) = 1 x 2; end(0, 0) = 4;",
                "take(1) = 1; arrive(0) = 1; end(0, 0) = 5; letter(0, 1) = 6; letter(0, 5) = 0;");
    }

    private static void statesAfterFin() {
        Check.run("If FIN is sent, ESTABLISHED becomes FIN_WAIT_1", OPEN, "leave(0) = 5; end(0, 0) = 5;");
        Check.run("If FIN is sent, CLOSE_WAIT becomes LAST_ACK", States.RUNS[7], "leave(0) = 9; end(0, 0) = 9;");
        Check.run("If FIN is not sent yet, the state stays", States.RELEASING[1], "end(0, 0) = 4;");
        Check.run("If FIN is not sent yet, the state stays", States.RELEASING[2], "end(0, 0) = 7;");
        Check.run("sent increases by the length of the segment", OPEN, Check.says(0, 1, 3),
                "end(0, 2) = 2; leave(0) = 5; end(0, 2) = 5;");
    }

    private static void repeated() {
        Check.runWith("p1;b32;", "All this is repeated until no segment is sent: bytes", HALF_OPEN, Check.says(0, 1, 12),
                "arrive(0) = 1; count(5) = 13; end(0, 2) = 13;");
        Check.runWith("p1;b32;", "All this is repeated until no segment is sent: 31 bytes and FIN", States.RUNS[3],
                Check.says(0, 1, 31), "leave(0) = 3; arrive(0) = 1;",
                "arrive(0) = 1; end(0, 2) = 33; end(0, 0) = 5; count(7) = 34; count(5) = 20; count(8) = 11;");
        Check.runWith("p1;b32;", "All this is repeated until no segment is sent: up to the edge", States.RUNS[3],
                Check.says(0, 1, 32), "leave(0) = 3; arrive(0) = 1;",
                "arrive(0) = 1; end(0, 2) = 33; end(0, 3) = 33; end(0, 0) = 4;");
    }

    private static void stalled() {
        String s = "An endpoint is stalled if it is in state ESTABLISHED or CLOSE_WAIT, acked equals sent, and it has unsent bytes or is releasing";
        Check.run(s + ": neither", OPEN, "end(0, 11) = 0; end(0, 1) = 1; end(0, 2) = 1;");
        Check.runWith("p1;b2;", s + ": unsent bytes", OPEN, Check.says(0, 1, 2), "arrive(0) = 1 x 4; end(0, 11) = 0; "
                + "say(0, 3) = 1; end(0, 11) = 3; end(0, 1) = 3;",
                "end(0, 2) = 3;");
        Check.runWith("p1;b2;", s + ": releasing", OPEN, Check.says(0, 1, 2), "arrive(0) = 1 x 4; end(0, 11) = 0; "
                + "leave(0) = 4; end(0, 11) = 3; end(0, 4) = 0;");
        Check.runWith("p1;b2;", s + ": CLOSE_WAIT, unsent bytes", States.RUNS[7], "arrive(0) = 1; say(0, 1) = 1; "
                + "say(0, 2) = 2; arrive(0) = 1 x 4; end(0, 11) = 0;",
                "say(0, 3) = 1; end(0, 11) = 3; end(0, 0) = 7;");
        Check.runWith("p1;b2;", s + ": CLOSE_WAIT, releasing", States.RUNS[7], "arrive(0) = 1; say(0, 1) = 1; say(0, 2) = 2; "
                + "arrive(0) = 1 x 4; leave(0) = 7;",
                "end(0, 11) = 3; end(0, 0) = 7;");
        Check.run(s + ": not in FIN_WAIT_2, though it is releasing", States.RUNS[6], "end(0, 11) = 0; end(0, 13) = 1; "
                + "pass(50) = 50; count(5) = 0;");
        Check.run(s + ": not in TIME_WAIT", States.RUNS[10], "end(0, 11) = 0; end(0, 13) = 1;");
        Check.run(s + ": not in CLOSED, though there are unsent bytes", OPEN, Check.says(0, 1, 20),
                "quit(0) = 4; end(0, 11) = 0; pass(20) = 20; count(9) = 0;");
    }
}
