/** "Arriving": every reason and cause, with the segments that just fit and those that just do not. */
public final class ArrivingTest {
    private static final String OPEN = States.OPEN;

    public static void main(String[] args) {
        closed();
        listening();
        connecting();
        emptySegmentsFit();
        segmentsFit();
        partsFit();
        causes();
        answersToWhatDoesNotFit();
        resets();
        withoutAck();
        ackNumbers();
        ackNumberZero();
        acknowledgment();
        marks();
        edge();
        finAcknowledged();
        urged();
        held();
        finNoted();
        expectedIncreases();
        answered();
        timeWait();
        Check.end("ArrivingTest");
    }

    private static void closed() {
        String s = "CLOSED: ";
        Check.run(s + "a SYN", "open(0, 1) = 1; arrive(0) = 0; cause(0) = 1; cause(1) = -4; count(5) = 1; letter(0, 1) = 12; "
                + "count(10) = 1; end(1, 0) = 0; end(1, 5) = 0;");
        Check.run(s + "a segment with ACK", OPEN, "say(0, 1) = 1; quit(1) = 4; arrive(0) = 0; cause(0) = 1; cause(1) = -4; "
                + "count(5) = 2; letter(1, 1) = 8;");
        Check.run(s + "an RST is not answered", OPEN, "quit(0) = 4; quit(1) = 4; arrive(0) = 0; cause(0) = 1; cause(1) = -4; "
                + "count(5) = 1;");
        Check.run(s + "an RST with ACK is not answered", "open(0, 1) = 1; arrive(0) = 0; quit(0) = 2; arrive(0) = 0; "
                + "cause(0) = 1; count(5) = 0; count(10) = 2;");
    }

    private static void listening() {
        String s = "LISTEN: ";
        Check.run(s + "an RST", OPEN, "quit(1) = 4; quit(0) = 4; lose(1) = 1; open(0, 0) = 1; arrive(0) = 0; cause(0) = 2; "
                + "cause(1) = -4; count(5) = 0; end(0, 0) = 1;");
        Check.run(s + "an RST with ACK, too, and it is not answered", "open(0, 1) = 1; arrive(0) = 0; quit(0) = 2; "
                + "open(0, 0) = 1; letter(0, 1) = 12; arrive(0) = 0;",
                "cause(0) = 2; cause(1) = -4; count(5) = 0; end(0, 0) = 1;");
        Check.run(s + "an ACK", OPEN, "say(1, 1) = 1; quit(0) = 4; lose(1) = 1; open(0, 0) = 1; arrive(0) = 0; cause(0) = 3; "
                + "cause(1) = -4; count(5) = 1;",
                "letter(0, 1) = 8; letter(0, 2) = 251; end(0, 0) = 1; end(0, 5) = 0;");
        Check.run(s + "an ACK with SYN", "open(1, 0) = 0; open(0, 1) = 1; arrive(0) = 1; quit(0) = 2; open(0, 0) = 1; "
                + "letter(0, 1) = 5; arrive(0) = 0; cause(0) = 3;",
                "count(5) = 1; letter(0, 1) = 8; letter(0, 2) = 251; end(0, 0) = 1;");
        Check.run(s + "a SYN", "open(1, 0) = 0; open(0, 1) = 1; arrive(0) = 1; cause(0) = -4; end(1, 5) = 1; end(1, 0) = 3; "
                + "count(5) = 1; letter(0, 1) = 5; count(10) = 0;");
    }

    private static void connecting() {
        String s = "SYN_SENT: ";
        String old = "quit(0) = 4; quit(1) = 4; lose(2) = 2; lose(1) = 1; open(0, 1) = 2;";
        Check.run(s + "its ack number is not position 1, but 2", OPEN, "say(0, 1) = 1; arrive(0) = 1;", old,
                "letter(0, 3) = 252; arrive(0) = 0; cause(0) = 5; cause(1) = -4;",
                "count(5) = 2; letter(1, 0) = 0; letter(1, 1) = 8; letter(1, 2) = 252; end(0, 0) = 2; end(0, 1) = 0;");
        Check.run(s + "its ack number is position 1, but it has no SYN", OPEN, "say(1, 1) = 1;", old,
                "letter(0, 3) = 251; arrive(0) = 0; cause(0) = 4; cause(1) = -4;",
                "count(5) = 1; end(0, 0) = 2; end(0, 1) = 0; end(0, 5) = 0;");
        Check.run(s + "RST with ACK", "open(0, 1) = 1; arrive(0) = 0; end(0, 11) = 6; arrive(0) = 1; cause(0) = -4; "
                + "end(0, 0) = 0; end(0, 11) = 0; end(0, 1) = 0; count(5) = 0;");
        Check.run(s + "RST without ACK", OPEN, "quit(1) = 4; quit(0) = 4; lose(1) = 1; open(0, 1) = 2; arrive(0) = 0; "
                + "cause(0) = 2; cause(1) = -4; end(0, 0) = 2; count(5) = 1;");
        Check.run(s + "SYN and ACK", "open(1, 0) = 0; open(0, 1) = 1; arrive(0) = 1; arrive(0) = 1; end(0, 0) = 4; "
                + "end(0, 1) = 1; end(0, 5) = 1; end(0, 3) = 13; count(5) = 1;",
                "letter(0, 1) = 4; letter(0, 2) = 251;");
        Check.run(s + "the pure ACK is sent, and then it transmits", "open(1, 0) = 0; open(0, 1) = 1; say(0, 7) = 1; "
                + "arrive(0) = 1 x 2; count(5) = 2; letter(0, 5) = 0;",
                "letter(1, 5) = 1; letter(1, 2) = 251;");
        Check.run(s + "SYN without ACK", "open(0, 1) = 1; open(1, 1) = 2; arrive(0) = 1; end(1, 0) = 3; end(1, 5) = 1; "
                + "end(1, 1) = 0; end(1, 3) = 1; count(5) = 2; letter(1, 0) = 1;",
                "letter(1, 1) = 5; letter(1, 2) = 100; letter(1, 3) = 251; count(9) = 0;");
    }

    /** Endpoint 0 has sent so many bytes, all of which are lost, and its pure ACK is on the wire. */
    private static String ackAhead(int bytes) {
        StringBuilder run = new StringBuilder(OPEN + Check.says(0, 1, bytes));
        for (int k = bytes - 1; k >= 0; k--) {
            run.append("lose(0) = ").append(k).append("; ");
        }
        return run + "say(1, 1) = 1; arrive(0) = 1; count(5) = 1; letter(0, 0) = 0; letter(0, 5) = 0;";
    }

    private static void emptySegmentsFit() {
        String s = "It fits, if its length is 0, when p equals expected, or is greater than expected and less than limit: ";
        Check.runWith("p1;b12;", s + "equal", OPEN, "say(1, 1) = 1; arrive(0) = 1; letter(0, 2) = 1; end(1, 5) = 1; "
                + "arrive(0) = 1; end(1, 1) = 2;");
        Check.runWith("p1;b12;", s + "greater by 1", ackAhead(1), "letter(0, 2) = 2; arrive(0) = 1; end(1, 1) = 2; "
                + "end(1, 5) = 1;");
        Check.runWith("p1;b12;", s + "limit - 1", ackAhead(11), "letter(0, 2) = 12; end(1, 7) = 13; arrive(0) = 1; "
                + "end(1, 1) = 2; end(1, 5) = 1;");
        Check.runWith("p1;b12;", s + "limit", ackAhead(12), "letter(0, 2) = 13; end(1, 7) = 13; arrive(0) = 0; cause(0) = 6; "
                + "cause(1) = 8; end(1, 1) = 1;");
        Check.runWith("p1;b2;", s + "less by 1", OPEN, Check.says(0, 1, 3), "arrive(0) = 1 x 2; take(1) = 1; count(5) = 3; "
                + "lose(2) = 2; arrive(0) = 1; arrive(0) = 1; pass(3) = 3;",
                "count(5) = 1; letter(0, 5) = 0; letter(0, 2) = 2; end(1, 5) = 3; end(1, 7) = 4; arrive(0) = 0; cause(0) = 6; "
                        + "cause(1) = 9;");
        Check.runWith("p1;b2;", s + "equal, though the window is 0", OPEN, Check.says(0, 1, 2),
                "arrive(0) = 1 x 4; say(1, 1) = 1; arrive(0) = 1; letter(0, 2) = 3; end(1, 5) = 3;",
                "end(1, 7) = 3; end(1, 1) = 1; arrive(0) = 1; end(1, 1) = 2;");
        Check.runWith("p1;b2;", s + "less by 1, and the window is 0", OPEN, Check.says(0, 1, 3),
                "arrive(0) = 1 x 4; pass(3) = 3; letter(0, 2) = 2; letter(0, 5) = 0; arrive(0) = 0;",
                "cause(0) = 6; cause(1) = 7;");
    }

    private static void segmentsFit() {
        String s = "when at least one of its positions is at least expected and less than limit: ";
        Check.run(s + "the last one is expected - 1", OPEN, "say(0, 1) = 1; twice(0) = 2; arrive(0) = 1; letter(0, 2) = 251; "
                + "end(1, 5) = 2; arrive(0) = 0; cause(0) = 6; cause(1) = 9;");
        Check.run(s + "SYN is expected - 1", "open(1, 0) = 0; open(0, 1) = 1; arrive(0) = 1; twice(0) = 2; arrive(0) = 1; "
                + "arrive(0) = 0; cause(0) = 6; cause(1) = 9;");
        Check.run(s + "FIN is expected - 1", OPEN, "leave(0) = 5; twice(0) = 2; arrive(0) = 1; arrive(0) = 0; cause(0) = 6; "
                + "cause(1) = 9; end(1, 0) = 7;");
        Check.run(s + "the first one is expected", OPEN, "say(0, 1) = 1; arrive(0) = 1; end(1, 5) = 2;");
        Check.runWith("p1;b12;", s + "limit - 1", OPEN, Check.says(0, 1, 12), "letter(11, 2) = 12; end(1, 7) = 13; "
                + "arrive(11) = 1; span(1, 0, 0) = 12; span(1, 0, 1) = 13;");
        Check.runWith("p4;b8;", s + "the window is 0", OPEN, Check.says(0, 1, 8), "twice(0) = 3; arrive(0) = 1; arrive(0) = 1; "
                + "arrive(1) = 1 x 2; arrive(1) = 1; end(1, 5) = 9; end(1, 7) = 9;",
                "arrive(0) = 0; cause(0) = 6; cause(1) = 7;");
    }

    /** The bytes of an old connection at the positions from first on, the other segments being gone. */
    private static String oldSegment(int first) {
        StringBuilder run = new StringBuilder(OPEN);
        for (int k = 1; k < first; k++) {
            run.append("say(0, 9) = 1; arrive(0) = 1; take(1) = 9; arrive(0) = 1;");
        }
        return run.toString();
    }

    private static void partsFit() {
        String s = "at least one of its positions: ";
        Check.run(s + "the last one is expected", OPEN, Check.says(0, 1, 5), "lose(1) = 1; arrive(0) = 1; lose(0) = 0; "
                + "pass(3) = 3; letter(0, 2) = 251; letter(0, 5) = 4;",
                "end(1, 5) = 2; arrive(0) = 1; end(1, 5) = 5; take(1) = 1; take(1) = 2; take(1) = 3; take(1) = 4; "
                        + "take(1) = -4;");
        Check.run(s + "only FIN", OPEN, "say(0, 1) = 1; leave(0) = 5; lose(1) = 1; arrive(0) = 1; lose(0) = 0; pass(3) = 3; "
                + "letter(0, 5) = 1; letter(0, 1) = 6; end(1, 5) = 2;",
                "arrive(0) = 1; end(1, 5) = 3; end(1, 0) = 7; end(1, 17) = 2; take(1) = 1; take(1) = -4;");
        // Bytes at the positions 7 to 10 of an old connection, where the limit is 9.
        String seven = oldSegment(6) + "say(0, 6) = 1; say(0, 7) = 2; say(0, 8) = 3; say(0, 9) = 4; say(0, 10) = 5; "
                + "count(5) = 2; letter(1, 2) = 7; letter(1, 5) = 4; lose(0) = 1;"
                + "quit(0) = 4; quit(1) = 4; lose(2) = 2; lose(1) = 1;" + States.OPEN_AGAIN;
        Check.runWith("p4;b8;", s + "the first two are less than limit", seven, "end(1, 7) = 9; arrive(0) = 1; "
                + "span(1, -1, 0) = 1; span(1, 0, 0) = 7; span(1, 0, 1) = 9; lose(0) = 0;",
                "say(0, 1) = 1; say(0, 2) = 2; say(0, 3) = 3; say(0, 4) = 4; say(0, 5) = 5; arrive(0) = 1 x 4; take(1) = 1; "
                        + "take(1) = 2; take(1) = 3; take(1) = 4; end(1, 7) = 13;",
                "span(1, -1, 0) = 1; span(1, 0, 0) = 7; span(1, 0, 1) = 9; end(1, 5) = 6; say(0, 6) = 1; arrive(0) = 1 x 2; "
                        + "end(1, 5) = 9;");
        String eight = oldSegment(7) + "say(0, 7) = 1; say(0, 8) = 2; say(0, 9) = 3; say(0, 10) = 4; say(0, 11) = 5; "
                + "count(5) = 2; letter(1, 2) = 8; letter(1, 5) = 4; lose(0) = 1;"
                + "quit(0) = 4; quit(1) = 4; lose(2) = 2; lose(1) = 1;" + States.OPEN_AGAIN;
        Check.runWith("p4;b8;", s + "the first is limit - 1", eight, "end(1, 7) = 9; arrive(0) = 1; span(1, -1, 0) = 1; "
                + "span(1, 0, 0) = 8; span(1, 0, 1) = 9;");
        String nine = oldSegment(8) + "say(0, 8) = 1; say(0, 9) = 2; say(0, 10) = 3; say(0, 11) = 4; say(0, 12) = 5; "
                + "count(5) = 2; letter(1, 2) = 9; letter(1, 5) = 4; lose(0) = 1;"
                + "quit(0) = 4; quit(1) = 4; lose(2) = 2; lose(1) = 1;" + States.OPEN_AGAIN;
        Check.runWith("p4;b8;", s + "the first is limit", nine, "end(1, 7) = 9; arrive(0) = 0; cause(0) = 6; cause(1) = 8; "
                + "span(1, -1, 0) = 0;");
    }

    private static void causes() {
        String s = "with the cause 7 if the window is 0, otherwise 8 if p is at least limit, otherwise 9: ";
        String full = OPEN + Check.says(0, 1, 2) + "twice(0) = 3; arrive(0) = 1 x 2;";
        Check.runWith("p1;b2;", s + "a window of 1, before it", OPEN, "say(0, 1) = 1; twice(0) = 2; arrive(0) = 1; "
                + "end(1, 5) = 2; end(1, 7) = 3; arrive(0) = 0; cause(1) = 9;");
        Check.runWith("p1;b2;", s + "a window of 0, before it", full, "end(1, 5) = 3; end(1, 7) = 3; arrive(0) = 0; "
                + "cause(0) = 6; cause(1) = 7; cause(2) = -4;");
        String beyond = oldSegment(3) + "say(0, 3) = 1; quit(0) = 4; quit(1) = 4; lose(2) = 2; lose(1) = 1;"
                + States.OPEN_AGAIN;
        Check.runWith("p1;b2;", s + "a window of 2, p is limit", beyond, "end(1, 7) = 3; letter(0, 2) = 3; arrive(0) = 0; "
                + "cause(0) = 6; cause(1) = 8; cause(2) = -4;");
        Check.runWith("p1;b2;", s + "a window of 0, p is limit", beyond, "say(0, 1) = 1; say(0, 2) = 2; arrive(1) = 1; "
                + "arrive(1) = 1; end(1, 5) = 3; letter(0, 2) = 3; arrive(0) = 0;",
                "cause(0) = 6; cause(1) = 7;");
    }

    private static void answersToWhatDoesNotFit() {
        Check.run("then, if it has no RST, a pure ACK is sent", OPEN, "say(0, 1) = 1; twice(0) = 2; arrive(0) = 1; "
                + "arrive(0) = 0; count(5) = 2; letter(1, 0) = 1; letter(1, 1) = 4;",
                "letter(1, 2) = 101; letter(1, 3) = 252; letter(1, 5) = 0;");
        Check.run("then, if it has no RST: it has", OPEN, "quit(1) = 4; quit(0) = 4; lose(1) = 1;", States.OPEN_AGAIN,
                "say(1, 1) = 1; arrive(1) = 1; lose(1) = 1; letter(0, 1) = 8;",
                "letter(0, 2) = 101; end(0, 5) = 2; arrive(0) = 0; cause(0) = 6; cause(1) = 9; count(5) = 0; end(0, 0) = 4;");
    }

    private static void resets() {
        String[] comes = {"", "", "",
            "arrive(0) = 1; quit(1) = 4; arrive(1) = 1;", "quit(1) = 4; arrive(0) = 1;", "quit(1) = 4; arrive(1) = 1;",
                    "quit(1) = 7; arrive(0) = 1;",
            "quit(1) = 5; arrive(1) = 1;", "quit(1) = 5; arrive(2) = 1;", "quit(1) = 5; arrive(2) = 1;",
                    "quit(1) = 9; arrive(0) = 0; arrive(0) = 1;"};
        for (int state = 3; state <= 10; state++) {
            Check.run("if it has RST, it is accepted, and the state becomes CLOSED: " + state, States.RUNS[state],
                    "end(0, 0) = " + state + ";", comes[state],
                    "end(0, 0) = 0; end(0, 11) = 0; end(0, 12) = 0; cause(0) = -4;");
        }
        Check.runWith("p1;b12;", "an RST that fits: p is limit - 1", OPEN, Check.says(0, 1, 11),
                "quit(0) = 4; letter(11, 2) = 12; arrive(11) = 1; end(1, 0) = 0; count(5) = 11;");
        Check.runWith("p1;b12;", "an RST that does not fit: p is limit", OPEN, Check.says(0, 1, 12),
                "quit(0) = 4; letter(12, 2) = 13; arrive(12) = 0; cause(0) = 6; cause(1) = 8;",
                "end(1, 0) = 4; count(5) = 12;");
        Check.run("an RST that does not fit: p is expected - 1", OPEN, "quit(1) = 4; quit(0) = 4; lose(1) = 1;",
                States.OPEN_AGAIN, "say(1, 1) = 1; arrive(1) = 1; arrive(0) = 0;",
                "cause(0) = 6; cause(1) = 9; end(0, 0) = 4;");
    }

    /** A SYN without ACK can fit only where its number is taken for that of position 256. */
    private static void withoutAck() {
        Check.run("if it has no ACK, it is dropped with reason 10", States.FAR, "quit(0) = 4; lose(1) = 1; lose(0) = 0; "
                + "open(0, 1) = 1;",
                "letter(0, 1) = 1; letter(0, 2) = 0; arrive(0) = 0; cause(0) = 10; cause(1) = -4; end(1, 0) = 4; "
                        + "count(5) = 0;");
        Check.run("if it has no ACK, but RST, it is accepted", States.FAR, "quit(0) = 4; lose(0) = 1; letter(0, 1) = 8; "
                + "arrive(0) = 1;",
                "cause(0) = -4; end(1, 0) = 0;");
    }

    /** The ack number of position 256, which is that of position 0 in a new connection. */
    private static void ackNumberZero() {
        Check.run("In state SYN_RECEIVED, if q is not from 1 to sent: 0", States.FAR, Check.says(0, 1, 30),
                "leave(0) = 4; arrive(0) = 1 x 6; letter(2, 3) = 0; quit(0) = 5; quit(1) = 7; open(0, 0) = 5; open(1, 1) = 6;",
                "arrive(5) = 1; arrive(2) = 0; cause(0) = 5; end(0, 0) = 3;");
    }

    private static void ackNumbers() {
        String old = "quit(0) = 4; quit(1) = 4; lose(2) = 2; lose(1) = 1; open(0, 0) = 1; open(1, 1) = 2; arrive(1) = 1; "
                + "end(0, 0) = 3;";
        Check.run("In state SYN_RECEIVED, if q is not from 1 to sent: 1", States.RUNS[3],
                "arrive(0) = 1; letter(0, 3) = 251; arrive(0) = 1; end(0, 0) = 4; end(0, 1) = 1;");
        Check.run("In state SYN_RECEIVED, if q is not from 1 to sent: 2", OPEN, "say(0, 1) = 1; arrive(0) = 1;", old,
                "letter(0, 3) = 252; arrive(0) = 0; cause(0) = 5; cause(1) = -4;",
                "count(5) = 2; letter(1, 0) = 0; letter(1, 1) = 8; letter(1, 2) = 252; end(0, 0) = 3; end(0, 1) = 0;");
        String again = "quit(0) = 4; quit(1) = 4; lose(2) = 2; lose(1) = 1;" + States.OPEN_AGAIN;
        Check.run("if q is greater than sent: by 1", OPEN, "say(0, 1) = 1; arrive(0) = 1;", again,
                "end(0, 2) = 1; letter(0, 3) = 252; arrive(0) = 0; cause(0) = 5; cause(1) = -4;",
                "end(0, 1) = 1; count(5) = 1; letter(0, 0) = 0; letter(0, 1) = 4; letter(0, 2) = 251; letter(0, 5) = 0;");
        Check.run("if q is greater than sent: equal", OPEN, "say(0, 1) = 1; arrive(0) = 1;", again,
                "say(0, 1) = 1; end(0, 2) = 2; letter(0, 3) = 252; arrive(0) = 1; end(0, 1) = 2;");
        Check.run("a segment that is dropped for its ack number brings nothing", OPEN,
                "say(0, 1) = 1; arrive(0) = 1; lose(0) = 0; say(1, 5) = 1; letter(0, 3) = 252;", again,
                "letter(0, 5) = 1; arrive(0) = 0; cause(0) = 5; end(0, 5) = 1; take(0) = -4; span(0, -1, 0) = 0;");
    }

    private static void acknowledgment() {
        Check.run("if q is greater than acked, acked becomes q", OPEN, "say(0, 1) = 1; arrive(0) = 1 x 2; end(0, 1) = 2;");
        Check.runWith("p1;", "q is less than acked", OPEN, "say(0, 1) = 1; say(0, 2) = 2; arrive(0) = 1 x 2; arrive(1) = 1; "
                + "end(0, 1) = 3; arrive(0) = 1; cause(0) = -4; end(0, 1) = 3;");
        Check.run("q equals acked", OPEN, "say(1, 1) = 1; say(0, 1) = 1; arrive(0) = 1; end(0, 1) = 1; end(0, 11) = 3;");
    }

    private static void marks() {
        String s = "the positions of the range that are at least acked and less than sent become marked: ";
        // An old ACK of nothing, with the range from 2 to 5.
        String old = Check.says(0, 1, 5) + "arrive(1) = 1; lose(0) = 1; letter(0, 6) = 1; quit(0) = 4; quit(1) = 4; "
                + "lose(2) = 2; lose(1) = 1;" + States.OPEN_AGAIN;
        Check.run(s + "all", OPEN, old, Check.says(0, 1, 5), "arrive(0) = 1; known(0, 1) = 0; known(0, 2) = 1; "
                + "known(0, 5) = 1; known(0, 6) = 0;");
        // Every place of the wire has had a segment with two ranges before.
        String used = States.laid("p1;b20;", 1) + OPEN + Check.says(0, 1, 6) + "arrive(3) = 1; arrive(1) = 1; letter(5, 6) = 2; "
                + "twice(5) = 7; lose(0) = 6; lose(0) = 5; lose(0) = 4; lose(0) = 3; lose(0) = 2; letter(0, 6) = 2;"
                + States.fill(2) + "lay() = 1;";
        Check.run(s + "none of a segment that is no more", used, OPEN, Check.says(0, 1, 6), "arrive(0) = 1; letter(5, 6) = 0; "
                + "arrive(5) = 1; end(0, 1) = 2; known(0, 2) = 0; known(0, 3) = 0; known(0, 4) = 0; known(0, 5) = 0;");
        Check.run(s + "none of a segment that is no more, but its own one", used, OPEN, Check.says(0, 1, 6), "arrive(4) = 1; "
                + "letter(5, 6) = 1; arrive(5) = 1; known(0, 5) = 1; known(0, 2) = 0; known(0, 3) = 0; known(0, 4) = 0;");
        Check.run(s + "none is less than sent", OPEN, old, "say(0, 1) = 1; end(0, 2) = 2; arrive(0) = 1; known(0, 2) = 0; "
                + "arrive(0) = 1; arrive(0) = 1;", "say(0, 2) = 1; end(0, 2) = 3;",
                "known(0, 2) = 0;");
        Check.run(s + "one is less than sent", OPEN, old, "say(0, 1) = 1; leave(0) = 5; end(0, 2) = 3; arrive(0) = 1; "
                + "known(0, 2) = 1; known(0, 3) = 0;");
        Check.run(s + "some are at least acked", OPEN, old, "say(0, 1) = 1; arrive(1) = 1 x 2; say(0, 2) = 1; "
                + "arrive(1) = 1 x 2; say(0, 3) = 1; arrive(1) = 1 x 2; end(0, 1) = 4;",
                "say(0, 4) = 1; leave(0) = 5; end(0, 2) = 6; arrive(0) = 1; known(0, 3) = 0; known(0, 4) = 1; known(0, 5) = 1; "
                        + "known(0, 6) = 0;");
    }

    private static void edge() {
        String s = "if q + (its window) is greater than edge, edge becomes this: ";
        Check.run(s + "equal", OPEN, "end(0, 3) = 13; say(0, 1) = 1; arrive(0) = 1 x 2; end(0, 3) = 13;");
        Check.runWith("p1;b2;", s + "greater by 1", OPEN, "say(0, 1) = 1; say(0, 2) = 2; arrive(0) = 1 x 4; end(0, 3) = 3; "
                + "take(1) = 1; letter(0, 4) = 1; arrive(0) = 1; end(0, 3) = 4;");
        Check.runWith("p1;b2;", s + "less", OPEN, "say(0, 1) = 1; arrive(0) = 1; take(1) = 1; say(0, 2) = 2; arrive(1) = 1; "
                + "arrive(1) = 1; end(0, 3) = 4; letter(0, 4) = 1; letter(0, 3) = 2;",
                "arrive(0) = 1; end(0, 3) = 4;");
        // The old ACK of 2 tells of room up to 14, when the new connection has room up to 13 only.
        Check.runWith("p1;b12;", s + "also if q is less than acked", OPEN, "say(0, 1) = 1; arrive(0) = 1; take(1) = 1; "
                + "arrive(0) = 1; say(0, 2) = 1; arrive(0) = 1; letter(0, 3) = 3;",
                "letter(0, 4) = 11; quit(0) = 4; quit(1) = 4; lose(2) = 2; lose(1) = 1;", States.OPEN_AGAIN,
                        Check.says(0, 1, 3), "arrive(1) = 1 x 6; end(0, 1) = 4; end(0, 3) = 13;",
                "arrive(0) = 1; end(0, 1) = 4; end(0, 3) = 14;");
    }

    private static void finAcknowledged() {
        String s = "If the endpoint has sent its FIN, and acked is greater than the position of the FIN: ";
        Check.run(s + "equal", OPEN, "say(0, 1) = 1; leave(0) = 5; arrive(0) = 1; arrive(1) = 1; end(0, 1) = 2; "
                + "end(0, 0) = 5;");
        Check.run(s + "less by 1", OPEN, "say(0, 1) = 1; leave(0) = 5; say(1, 2) = 1; arrive(2) = 1; cause(0) = -4; "
                + "end(0, 1) = 1; end(0, 2) = 3; end(0, 0) = 5;");
        Check.run(s + "FIN_WAIT_1 becomes FIN_WAIT_2", OPEN, "say(0, 1) = 1; leave(0) = 5; arrive(0) = 1 x 2; "
                + "arrive(0) = 1 x 2; end(0, 1) = 3; end(0, 0) = 6;");
        Check.run(s + "CLOSING becomes TIME_WAIT", States.RUNS[8], "arrive(0) = 1; end(0, 0) = 8; arrive(1) = 1; "
                + "end(0, 0) = 10; end(0, 12) = 10;");
        Check.run(s + "LAST_ACK becomes CLOSED", States.RUNS[9], "arrive(0) = 1; end(0, 0) = 9; arrive(0) = 1; arrive(0) = 1; "
                + "end(0, 0) = 0;");
        Check.run(s + "FIN is not sent", States.RELEASING[1], "arrive(0) = 1; arrive(2) = 1; end(0, 0) = 4;");
        // Old byte 2 of endpoint 1 acknowledges what is FIN now.
        Check.run("in this last case nothing further happens", OPEN, "say(0, 1) = 1; arrive(0) = 1 x 2; say(1, 1) = 1; "
                + "arrive(0) = 1 x 2; say(1, 2) = 1; cry(1) = 3; letter(0, 2) = 102;",
                "lose(0) = 0; pass(3) = 3; letter(0, 2) = 102; letter(0, 3) = 252; letter(0, 7) = 103; quit(0) = 4; "
                        + "quit(1) = 4; lose(2) = 2; lose(1) = 1;", States.OPEN_AGAIN,
                "leave(1) = 5; arrive(1) = 1; lose(1) = 1; leave(0) = 9; lose(1) = 1; end(0, 5) = 2; end(0, 2) = 2; "
                        + "arrive(0) = 1; end(0, 0) = 0; end(0, 1) = 2; end(0, 15) = 0;",
                "count(5) = 0; cause(0) = -4;");
    }

    private static void urged() {
        String s = "urged becomes the position that this means, if this is greater than urged: ";
        String two = OPEN + "say(0, 1) = 1; cry(0) = 2; pass(3) = 3; lose(0) = 1; letter(0, 7) = 252;";
        Check.run(s + "greater than 0", two, "end(1, 15) = 0; arrive(0) = 1; end(1, 15) = 2;");
        Check.run(s + "equal", two, "twice(0) = 2; say(0, 2) = 2; arrive(0) = 1; end(1, 15) = 2; arrive(0) = 0; "
                + "end(1, 15) = 2;");
        Check.runWith("p1;b20;f0,0;", s + "less", OPEN, Check.says(0, 1, 3), "cry(0) = 4; lose(1) = 2; lose(0) = 1; "
                + "lose(0) = 0; pass(3) = 3; letter(0, 7) = 4; say(0, 4) = 4; cry(0) = 5; lose(1) = 1;",
                "pass(6) = 9; letter(1, 7) = 5; letter(1, 2) = 1; arrive(1) = 1; end(1, 15) = 5; arrive(0) = 0; "
                        + "end(1, 15) = 5;");
        Check.run(s + "less, in a segment that is accepted", States.OLD_BYTES, States.OPEN_AGAIN, Check.says(1, 1, 8),
                "cry(1) = 9; pass(3) = 3; letter(3, 2) = 101; letter(3, 7) = 109; arrive(3) = 1; end(0, 15) = 9; end(0, 5) = 5; "
                + "letter(0, 7) = 105; arrive(0) = 1; end(0, 5) = 6; end(0, 15) = 9;");
        Check.runWith("p1;b20;f0,0;", s + "less, in a segment that fits", OPEN, "say(0, 1) = 1; say(0, 2) = 2; cry(0) = 3; "
                + "lose(1) = 1; lose(0) = 0; pass(3) = 3; letter(0, 7) = 3; say(0, 3) = 3;",
                "cry(0) = 4; lose(1) = 1; quit(0) = 4; quit(1) = 4; lose(2) = 2; lose(1) = 1;", States.OPEN_AGAIN,
                        "say(0, 1) = 1; say(0, 2) = 2; say(0, 3) = 3; cry(0) = 4; say(0, 4) = 4;",
                "letter(4, 7) = -4; cry(0) = 5; pass(3) = 6; letter(5, 2) = 1; letter(5, 7) = 5; arrive(5) = 1; "
                        + "end(1, 15) = 5; arrive(0) = 0; end(1, 15) = 5;");
    }

    private static void held() {
        String s = "those of its bytes whose positions are at least expected and less than limit become held, if they are not: ";
        Check.run(s + "ESTABLISHED", OPEN, "say(1, 7) = 1; arrive(0) = 1; end(0, 5) = 2; take(0) = 7;");
        Check.run(s + "FIN_WAIT_1", States.RUNS[5], "say(1, 7) = 1; arrive(1) = 1; end(0, 0) = 5; end(0, 5) = 2; take(0) = 7;");
        Check.run(s + "FIN_WAIT_2", States.RUNS[6], "say(1, 7) = 1; arrive(0) = 1; end(0, 0) = 6; end(0, 5) = 2; take(0) = 7;");
        Check.run(s + "SYN_RECEIVED becomes ESTABLISHED", States.RUNS[3], "arrive(0) = 1; lose(0) = 0; say(1, 7) = 1; "
                + "arrive(0) = 1; end(0, 0) = 4; end(0, 5) = 2; take(0) = 7;");
        // The bytes 2 to 5 of an old connection are held when those of the new one come.
        String twofold = OPEN + Check.says(0, 1, 5) + "quit(0) = 4; quit(1) = 4; lose(3) = 3; lose(2) = 2; lose(0) = 1;"
                + States.OPEN_AGAIN + "arrive(0) = 1; lose(0) = 0; say(0, 11) = 1;"
                + "say(0, 12) = 2; say(0, 13) = 3; say(0, 14) = 4; say(0, 15) = 5; arrive(1) = 1; arrive(0) = 1;";
        Check.run(s + "they are held already", twofold, "end(1, 5) = 6; take(1) = 11; take(1) = 2; take(1) = 3; take(1) = 4; "
                + "take(1) = 5; take(1) = -4;");
        // Old bytes from position 2 on come to an endpoint whose peer has sent FIN at position 1.
        String old = OPEN + Check.says(1, 1, 5) + "lose(0) = 1; quit(0) = 4; quit(1) = 4; lose(2) = 2; lose(1) = 1;"
                + States.OPEN_AGAIN + "leave(1) = 5; arrive(1) = 1; end(0, 5) = 2;";
        Check.run(s + "not in CLOSE_WAIT", old, "end(0, 0) = 7; arrive(0) = 1; cause(0) = -4; end(0, 5) = 2; "
                + "span(0, -1, 0) = 0; take(0) = -4; count(5) = 2;");
        Check.run(s + "not in LAST_ACK", old, "leave(0) = 9; arrive(0) = 1; end(0, 0) = 9; end(0, 5) = 2; span(0, -1, 0) = 0;");
    }

    private static void finNoted() {
        String s = "If it has FIN, and the position after its bytes is at least expected and less than limit, and no fin is noted yet: ";
        Check.run(s + "at expected", OPEN, "leave(0) = 5; arrive(0) = 1; end(1, 17) = 1; end(1, 0) = 7;");
        Check.run(s + "after expected", OPEN, "say(0, 1) = 1; leave(0) = 5; arrive(1) = 1; end(1, 17) = 2; end(1, 0) = 4; "
                + "end(1, 5) = 1; arrive(0) = 1; end(1, 0) = 7; end(1, 5) = 3;");
        Check.runWith("p4;b8;", s + "limit - 1", OPEN, Check.says(0, 1, 7), "leave(0) = 5; letter(2, 5) = 2; letter(2, 1) = 6; "
                + "arrive(2) = 1; end(1, 17) = 8; end(1, 7) = 9;");
        // Old bytes at the positions 7 and 8, and FIN at 9, where the limit is 9.
        String old = oldSegment(6) + "say(0, 6) = 1; say(0, 7) = 2; say(0, 8) = 3; leave(0) = 5; letter(1, 2) = 7; "
                + "letter(1, 5) = 2; letter(1, 1) = 6; lose(0) = 1;"
                + "quit(0) = 5; quit(1) = 4; lose(2) = 2; lose(1) = 1;" + States.OPEN_AGAIN;
        Check.runWith("p4;b8;", s + "limit", old, "end(1, 7) = 9; arrive(0) = 1; end(1, 17) = -4; span(1, 0, 0) = 7; "
                + "span(1, 0, 1) = 9;");
        Check.run(s + "less than expected", States.OPEN, "say(0, 1) = 1; leave(0) = 5; arrive(0) = 1; arrive(0) = 1; "
                + "end(1, 17) = 2; end(1, 5) = 3; take(1) = 1; take(1) = -4;");
        // FIN of an old connection at position 2 is noted; FIN of the new one at 3 is not.
        String two = OPEN + "say(0, 1) = 1; leave(0) = 5; lose(0) = 1; quit(0) = 5; quit(1) = 4; lose(2) = 2; lose(1) = 1;"
                + States.OPEN_AGAIN;
        Check.run(s + "one is noted", two, "arrive(0) = 1; end(1, 17) = 2; lose(0) = 0; say(0, 1) = 1; say(0, 2) = 2; "
                + "leave(0) = 5; letter(1, 5) = 1; letter(1, 1) = 6; arrive(1) = 1; end(1, 17) = 2;",
                "span(1, 0, 0) = 2; arrive(0) = 1; end(1, 5) = 3; end(1, 0) = 4; end(1, 17) = 2;");
    }

    private static void expectedIncreases() {
        Check.run("expected increases as long as the position expected is held", OPEN, Check.says(0, 1, 9),
                "arrive(2) = 1; end(1, 5) = 1; arrive(0) = 1; end(1, 5) = 2; arrive(0) = 1; end(1, 5) = 10;");
        Check.runWith("p4;b8;", "expected increases up to limit", OPEN, Check.says(0, 1, 8),
                "arrive(0) = 1 x 4; end(1, 5) = 6; arrive(0) = 1; end(1, 5) = 9; end(1, 7) = 9;");
        Check.run("if expected is fin: ESTABLISHED becomes CLOSE_WAIT", OPEN, "leave(1) = 5; arrive(0) = 1; end(0, 0) = 7; "
                + "end(0, 5) = 2;");
        Check.run("if expected is fin: FIN_WAIT_1 becomes CLOSING", States.RUNS[5], "leave(1) = 5; arrive(1) = 1; "
                + "end(0, 0) = 8; end(0, 5) = 2; end(0, 12) = 0;");
        Check.run("if expected is fin: FIN_WAIT_2 becomes TIME_WAIT", States.RUNS[6], "leave(1) = 9; arrive(0) = 1; "
                + "end(0, 0) = 10; end(0, 5) = 2; end(0, 12) = 10;");
        Check.run("FIN_WAIT_1 becomes FIN_WAIT_2 and TIME_WAIT by one segment", OPEN, "leave(0) = 5; arrive(0) = 1; "
                + "lose(0) = 0; leave(1) = 9; letter(0, 3) = 252; arrive(0) = 1; end(0, 0) = 10;",
                "end(0, 12) = 10;");
        Check.run("if expected is not fin, nothing is released", OPEN, "say(1, 1) = 1; leave(1) = 5; arrive(1) = 1; "
                + "end(0, 17) = 2; end(0, 0) = 4; end(0, 5) = 1;");
    }

    private static void answered() {
        Check.run("If its length is not 0, a pure ACK is sent: a byte", OPEN, "say(0, 1) = 1; arrive(0) = 1; count(5) = 1; "
                + "letter(0, 0) = 1; letter(0, 1) = 4; letter(0, 5) = 0; letter(0, 3) = 252;");
        Check.run("If its length is not 0, a pure ACK is sent: FIN", OPEN, "leave(0) = 5; arrive(0) = 1; count(5) = 1; "
                + "letter(0, 0) = 1; letter(0, 1) = 4; letter(0, 3) = 252;");
        Check.run("If its length is 0, none is sent", OPEN, "say(0, 1) = 1; arrive(0) = 1; arrive(0) = 1; count(5) = 0;");
        Check.run("Then the endpoint transmits, after the ACK", OPEN, "say(1, 1) = 1; say(1, 2) = 2; arrive(0) = 1; "
                + "say(0, 9) = 1; letter(1, 3) = 102; lose(0) = 1;",
                "arrive(0) = 1; count(5) = 2; letter(0, 0) = 1; letter(0, 5) = 0; letter(0, 3) = 252; letter(1, 0) = 1; "
                        + "byteOf(1, 0) = 2;");
    }

    private static void timeWait() {
        String s = "in state TIME_WAIT (whether it has RST or not) the wait timer becomes twice the lifetime again: ";
        Check.run(s + "FIN", OPEN, "leave(0) = 5; arrive(0) = 1; leave(1) = 9; twice(1) = 3; arrive(0) = 1; arrive(0) = 1; "
                + "pass(4) = 4; end(0, 12) = 6; arrive(0) = 0; cause(1) = 9;",
                "end(0, 12) = 10; end(0, 0) = 10; count(5) = 3; letter(2, 0) = 0; letter(2, 1) = 4; letter(2, 5) = 0;");
        Check.run(s + "RST", OPEN, "quit(1) = 4; quit(0) = 4; lose(1) = 1;", States.OPEN_AGAIN,
                "leave(0) = 5; arrive(1) = 1; leave(1) = 9; arrive(1) = 1 x 2; end(0, 0) = 10; lose(1) = 1; pass(4) = 4;",
                "end(0, 12) = 6; letter(0, 1) = 8; arrive(0) = 0; cause(1) = 9; end(0, 12) = 10; count(5) = 1; "
                        + "letter(0, 0) = 1;");
        Check.run(s + "not by a segment that fits", States.RUNS[8], "arrive(0) = 1; twice(1) = 3; arrive(1) = 1; "
                + "end(0, 0) = 10; pass(2) = 2; end(0, 12) = 8;",
                "arrive(1) = 1; cause(0) = -4; end(0, 12) = 8;");
        Check.run(s + "not in other states", OPEN, "say(0, 1) = 1; twice(0) = 2; arrive(0) = 1; arrive(0) = 0; end(1, 12) = 0; "
                + "end(1, 0) = 4;");
    }
}
