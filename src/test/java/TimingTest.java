/** "Timing": what is timed, how a round-trip time changes the timeout, and when the timer is adjusted. */
public final class TimingTest {
    private static final String OPEN = States.OPEN;
    private static final String HALF_OPEN = "open(1, 0) = 0; open(0, 1) = 1; arrive(0) = 1;";
    /** Endpoint 0 is ESTABLISHED with the timeout 24, and no round-trip time has been measured. */
    private static final String SLOW = "open(0, 1) = 1; pass(18) = 18; lose(2) = 2; lose(1) = 1; open(1, 0) = 1; "
            + "arrive(0) = 1 x 3;"
            + "end(0, 8) = 24; sample(0, 0) = -4; end(0, 11) = 0; end(0, 16) = -4;";

    public static void main(String[] args) {
        lengthOneOrMore();
        notRetransmitted();
        noTimedPosition();
        greaterThanTimed();
        atLeastOne();
        firstTime();
        otherTimes();
        atMost64();
        lastSix();
        acknowledgedTimer();
        adjustedTimer();
        Check.end("TimingTest");
    }

    private static void lengthOneOrMore() {
        String s = "When a segment of length 1 or more is sent: ";
        Check.run(s + "SYN", "open(0, 1) = 1; end(0, 16) = 0;");
        Check.run(s + "SYN and ACK", HALF_OPEN, "end(1, 16) = 0;");
        Check.run(s + "a byte", OPEN, "end(0, 16) = -4; say(0, 1) = 1; end(0, 16) = 1;");
        Check.run(s + "FIN", OPEN, "leave(0) = 5; end(0, 16) = 1;");
        Check.run(s + "not for a pure ACK", OPEN, "say(1, 1) = 1; arrive(0) = 1; count(5) = 1; end(0, 16) = -4;");
        Check.run(s + "not for an RST", OPEN, "quit(0) = 4; end(0, 16) = -4;");
        Check.runWith("p1;b2;", s + "not for a probe", OPEN, Check.says(0, 1, 3), "arrive(0) = 1 x 4; end(0, 16) = -4; "
                + "pass(3) = 3; count(5) = 1; end(0, 16) = -4;");
        Check.run("the last position of the segment: four bytes", HALF_OPEN, Check.says(0, 1, 4),
                "arrive(0) = 1; end(0, 16) = 4;");
        Check.run("the last position of the segment: bytes and FIN", States.RUNS[3], Check.says(0, 1, 3),
                "leave(0) = 3; arrive(0) = 1 x 2; end(0, 16) = 4;");
    }

    private static void notRetransmitted() {
        Check.run("it is not a retransmission", OPEN, "say(0, 1) = 1; pass(2) = 2; end(0, 16) = 1; pass(1) = 3; "
                + "end(0, 16) = -4; arrive(0) = 1; arrive(1) = 1;",
                "end(0, 1) = 2; sample(0, 0) = 1; sample(0, 1) = -4;");
        Check.run("it is not a retransmission of a SYN", "open(0, 1) = 1; pass(5) = 5; end(0, 16) = 0; pass(1) = 6; "
                + "end(0, 16) = -4; open(1, 0) = 2;",
                "arrive(0) = 1; arrive(1) = 1; end(0, 0) = 4; sample(0, 0) = -4; end(0, 9) = 0; end(0, 10) = 0; "
                        + "end(0, 8) = 12;");
        Check.run("not a SYN for the second time", "open(1, 1) = 1; pass(6) = 6; end(1, 16) = -4; open(0, 1) = 3; "
                + "arrive(2) = 1; end(1, 0) = 3; end(1, 16) = -4;");
        Check.run("not a SYN for the second time: the first time counts", "open(1, 1) = 1; pass(2) = 2; open(0, 1) = 2; "
                + "arrive(1) = 1; end(1, 0) = 3; end(1, 16) = 0;",
                "arrive(0) = 1; pass(1) = 3; arrive(0) = 0; arrive(1) = 1; end(1, 0) = 4; sample(1, 0) = 3;");
    }

    private static void noTimedPosition() {
        Check.runWith("p1;", "there is no timed position", OPEN, "say(0, 1) = 1; end(0, 16) = 1; pass(1) = 1; say(0, 2) = 2; "
                + "end(0, 16) = 1; arrive(0) = 1; arrive(1) = 1;",
                "end(0, 1) = 2; end(0, 16) = -4; sample(0, 0) = 1; say(0, 3) = 2; end(0, 16) = 3;");
    }

    private static void greaterThanTimed() {
        String s = "When acked becomes greater than the timed position: ";
        String both = OPEN + "say(0, 1) = 1; say(0, 2) = 2; arrive(0) = 1; arrive(1) = 1; say(0, 3) = 2; end(0, 16) = 3;";
        Check.runWith("p1;b20;", s + "less", OPEN, Check.says(0, 1, 2), "pass(3) = 3; end(0, 16) = -4; say(0, 3) = 3; "
                + "end(0, 16) = 3; arrive(0) = 1; arrive(3) = 1; end(0, 1) = 2; end(0, 16) = 3; sample(0, 1) = -4;");
        Check.runWith("p1;b20;", s + "equal", both, "arrive(0) = 1; arrive(1) = 1; end(0, 1) = 3; end(0, 16) = 3; "
                + "sample(0, 2) = -4;");
        Check.runWith("p1;b20;", s + "greater by 1", both, "arrive(0) = 1; arrive(1) = 1; arrive(0) = 1; arrive(0) = 1; "
                + "end(0, 1) = 4; end(0, 16) = -4; sample(0, 2) = 1;");
        Check.runWith("p1;b20;", s + "greater by more", OPEN, Check.says(0, 1, 3), "end(0, 16) = 1; arrive(1) = 1; "
                + "arrive(1) = 1; arrive(0) = 1; lose(0) = 2; lose(0) = 1; arrive(0) = 1;",
                "end(0, 1) = 4; end(0, 16) = -4; sample(0, 1) = 1;");
    }

    private static void atLeastOne() {
        Check.run("the time now minus that time, but at least 1: 0", HALF_OPEN, "arrive(0) = 1; sample(0, 0) = 1;");
        Check.run("the time now minus that time, but at least 1: 1", HALF_OPEN, "pass(1) = 1; arrive(0) = 1; "
                + "sample(0, 0) = 1;");
        Check.run("the time now minus that time, but at least 1: 2", HALF_OPEN, "pass(2) = 2; arrive(0) = 1; "
                + "sample(0, 0) = 2;");
        Check.run("the time now minus that time", "pass(50) = 50;", HALF_OPEN, "pass(3) = 53; arrive(0) = 1; "
                + "sample(0, 0) = 3;");
    }

    private static void firstTime() {
        String s = "For the first r since the start: ";
        for (int r = 1; r <= 5; r++) {
            Check.run(s + r, HALF_OPEN, "pass(" + r + ") = " + r + "; arrive(0) = 1; sample(0, 0) = " + r + "; end(0, 9) = "
                    + 8 * r + ";",
                    "end(0, 10) = " + 2 * r + "; end(0, 8) = " + 3 * r + ";");
        }
        Check.run(s + "opened again", HALF_OPEN, "pass(5) = 5; arrive(0) = 1; quit(0) = 4; quit(1) = 3; lose(2) = 2; "
                + "lose(1) = 1; open(1, 0) = 1; open(0, 1) = 2;",
                "arrive(1) = 1; pass(1) = 6; arrive(1) = 1; sample(0, 0) = 1; sample(0, 1) = -4; end(0, 9) = 8; "
                        + "end(0, 10) = 2; end(0, 8) = 3;");
    }

    private static void otherTimes() {
        Check.run("For others: d is 0", OPEN, "say(0, 1) = 1; arrive(0) = 1 x 2; sample(0, 1) = 1; end(0, 9) = 8; "
                + "end(0, 10) = 2; end(0, 8) = 3;");
        Check.run("For others: d is positive", OPEN, "say(0, 1) = 1; pass(2) = 2; arrive(0) = 1 x 2; end(0, 9) = 9; "
                + "end(0, 10) = 3; end(0, 8) = 4;");
        Check.run("For others: d is negative", HALF_OPEN, "pass(5) = 5; arrive(0) = 1 x 2; say(0, 1) = 1; pass(2) = 7; "
                + "arrive(0) = 1 x 2; end(0, 9) = 37;",
                "end(0, 10) = 11; end(0, 8) = 15;");
    }

    private static void atMost64() {
        Check.run("at most 64: 63", SLOW, "say(0, 1) = 1; pass(21) = 39; arrive(0) = 1 x 2; sample(0, 0) = 21; "
                + "end(0, 9) = 168; end(0, 10) = 42; end(0, 8) = 63;");
        Check.run("at most 64: 66 is too large", SLOW, "say(0, 1) = 1; pass(22) = 40; arrive(0) = 1 x 2; sample(0, 0) = 22; "
                + "end(0, 9) = 176; end(0, 10) = 44; end(0, 8) = 64;");
        Check.run("doubles, but to at most 64: 126 is too large", SLOW, "say(0, 1) = 1; pass(21) = 39; arrive(0) = 1 x 2; "
                + "say(0, 2) = 1; pass(62) = 101; end(0, 8) = 63;",
                "end(0, 11) = 1; count(5) = 1; pass(1) = 102; end(0, 8) = 64; end(0, 11) = 64; count(5) = 2; pass(63) = 165; "
                        + "count(5) = 2; pass(1) = 166;",
                "count(5) = 3; end(0, 8) = 64; end(0, 11) = 64;");
        Check.run("doubles: 6, 12, 24, 48, 64", "open(0, 1) = 1; pass(6) = 6; end(0, 8) = 12; end(0, 11) = 12; pass(12) = 18; "
                + "end(0, 8) = 24; pass(24) = 42;",
                "end(0, 8) = 48; pass(48) = 90; end(0, 8) = 64; end(0, 11) = 64; pass(64) = 154; end(0, 8) = 64; "
                        + "count(9) = 5;");
    }

    private static void lastSix() {
        String s = "the last 6 round-trip times: ";
        StringBuilder run = new StringBuilder("open(1, 0) = 0; open(0, 1) = 1; arrive(0) = 1; pass(5) = 5; arrive(0) = 1 x 2;");
        for (int k = 2; k <= 6; k++) {
            run.append("say(0, 1) = 1; pass(1) = ").append(4 + k).append("; arrive(0) = 1 x 2;");
        }
        Check.run(s + "six", run.toString(), "sample(0, 0) = 1; sample(0, 4) = 1; sample(0, 5) = 5; sample(0, 6) = -4;");
        Check.run(s + "seven", run + "say(0, 1) = 1; pass(2) = 12; arrive(0) = 1 x 2;",
                "sample(0, 0) = 2; sample(0, 1) = 1; sample(0, 5) = 1; sample(0, 6) = -4;");
    }

    private static void acknowledgedTimer() {
        String s = "When acked increases, the timer becomes 0: ";
        Check.run(s + "all is acknowledged", OPEN, "say(0, 1) = 1; end(0, 11) = 3; arrive(0) = 1 x 2; end(0, 11) = 0;");
        Check.run(s + "and the timeout again, if more has been sent", OPEN, Check.says(0, 1, 5),
                "pass(2) = 2; end(0, 11) = 1; arrive(0) = 1; arrive(1) = 1;",
                "end(0, 1) = 2; end(0, 8) = 4; end(0, 11) = 4;");
        Check.run(s + "not when it stays", OPEN, "say(0, 1) = 1; pass(2) = 2; say(1, 1) = 1; arrive(1) = 1; end(0, 1) = 1; "
                + "end(0, 11) = 1;");
    }

    private static void adjustedTimer() {
        String s = "its timer is adjusted: ";
        Check.run(s + "CLOSED", "open(0, 1) = 1; end(0, 11) = 6; quit(0) = 2; end(0, 11) = 0;");
        Check.run(s + "LISTEN", OPEN, "say(0, 1) = 1; quit(0) = 4; open(0, 0) = 2; end(0, 11) = 0; pass(9) = 9; "
                + "end(0, 11) = 0; count(5) = 2;");
        Check.run(s + "neither acked is less than sent nor the endpoint is stalled", OPEN, "end(0, 11) = 0; end(1, 11) = 0;");
        Check.run(s + "if it is 0, it becomes the timeout", OPEN, "say(0, 1) = 1; end(0, 11) = 3;");
        Check.runWith("p1;", s + "if it is not 0, it stays", OPEN, "say(0, 1) = 1; pass(1) = 1; end(0, 11) = 2; say(0, 2) = 2; "
                + "end(0, 2) = 3; end(0, 11) = 2;");
        Check.run(s + "after a segment that arrives", "open(1, 0) = 0; open(0, 1) = 1; pass(2) = 2; end(0, 11) = 4; "
                + "end(1, 11) = 0; arrive(0) = 1; end(1, 11) = 6; end(0, 11) = 4;");
        Check.run(s + "after the timer has expired", OPEN, "say(0, 1) = 1; pass(3) = 3; end(0, 8) = 6; end(0, 11) = 6;");
    }
}
