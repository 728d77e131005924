/** Promises 6 to 11, at the edges: arguments just in and just out of range, every state, empty and full. */
public final class EndsBoundsTest {
    private static final String OPEN = States.OPEN;
    private static final int MIN = Integer.MIN_VALUE, MAX = Integer.MAX_VALUE;

    public static void main(String[] args) {
        endpointsInRange();
        openKinds();
        openStates();
        openReturns();
        sayBytes();
        sayStates();
        sayPending();
        cryStates();
        cryUrgent();
        leaveStates();
        quitStates();
        takeBytes();
        takeWidens();
        takeTellsThePeer();
        Check.end("EndsBoundsTest");
    }

    private static void endpointsInRange() {
        for (int e : new int[] {MIN, -1, 2, 3, MAX}) {
            Check.run("BAD if there is no such endpoint", "open(" + e + ", 0) = -1; open(" + e + ", 1) = -1; say(" + e
                    + ", 0) = -1; cry(" + e + ") = -1;",
                    "leave(" + e + ") = -1; quit(" + e + ") = -1; take(" + e + ") = -1;");
            Check.run("BAD if there is no such endpoint", OPEN, "say(0, 1) = 1; say(1, 1) = 1; arrive(0) = 1 x 2; say(" + e
                    + ", 0) = -1; cry(" + e + ") = -1;",
                    "take(" + e + ") = -1; leave(" + e + ") = -1; quit(" + e + ") = -1;");
        }
        Check.run("both endpoints", OPEN, "say(0, 1) = 1; say(1, 2) = 1; cry(0) = 2; cry(1) = 2; arrive(0) = 1 x 2; "
                + "take(1) = 1; take(0) = 2; leave(0) = 5; leave(1) = 5;",
                "quit(0) = 5; quit(1) = 5; open(0, 0) = 6; open(1, 0) = 6;");
    }

    private static void openKinds() {
        for (int kind : new int[] {MIN, -1, 2, MAX}) {
            Check.run("open: BAD if an argument is out of range", "open(0, " + kind + ") = -1; open(1, " + kind
                    + ") = -1; end(0, 0) = 0; end(1, 0) = 0; count(7) = 0;");
        }
        Check.run("open: kind 0, it listens (state LISTEN)", "open(0, 0) = 0; end(0, 0) = 1; count(7) = 0; open(1, 0) = 0; "
                + "end(1, 0) = 1;");
        Check.run("open: kind 1, it connects (state SYN_SENT, and a SYN is sent)", "open(0, 1) = 1; end(0, 0) = 2; "
                + "count(7) = 1; letter(0, 1) = 1; letter(0, 0) = 0;",
                "open(1, 1) = 2; end(1, 0) = 2; letter(1, 1) = 1; letter(1, 0) = 1;");
    }

    private static void openStates() {
        for (int state = 1; state <= 10; state++) {
            Check.run("open: NO if the endpoint is not CLOSED, state " + state, States.RUNS[state],
                    "open(0, 0) = -2; open(0, 1) = -2; end(0, 0) = " + state + ";");
        }
        Check.run("open: an endpoint that is CLOSED again listens", States.USED[1], "open(0, 0) = 3; end(0, 0) = 1; "
                + "end(0, 2) = 0; end(0, 4) = 0;");
        Check.run("open: an endpoint that is CLOSED again connects", States.USED[3], "open(0, 1) = 4; end(0, 0) = 2; "
                + "end(0, 2) = 1; end(0, 13) = 0; end(0, 17) = -4;");
    }

    private static void openReturns() {
        Check.run("open: how many segments are on the wire then: none", "open(0, 0) = 0;");
        Check.run("open: how many segments are on the wire then: one", "open(0, 1) = 1; open(1, 0) = 1;");
        Check.run("open: how many segments are on the wire then: 20", "open(0, 1) = 1;", States.fill(1),
                "lose(0) = 19; open(1, 1) = 20; count(8) = 0; letter(19, 0) = 1;");
        Check.run("open: how many segments are on the wire then: still 20", "open(0, 1) = 1;", States.fill(1),
                "open(1, 1) = 20; count(8) = 1; letter(19, 0) = 0;");
    }

    private static void sayBytes() {
        for (int b : new int[] {MIN, -1, 256, MAX}) {
            Check.run("say: the byte, 0 to 255", OPEN, "say(0, " + b + ") = -1; say(1, " + b
                    + ") = -1; count(5) = 0; end(0, 4) = 0;");
        }
        for (int b : new int[] {0, 1, 127, 128, 254, 255}) {
            Check.run("say: the byte, 0 to 255", OPEN, "say(0, " + b + ") = 1; byteOf(0, 0) = " + b
                    + "; arrive(0) = 1; take(1) = " + b + ";");
        }
    }

    private static void sayStates() {
        int[] due = {-2, -2, 1, 1, 1, -2, -2, 1, -2, -2, -2};
        for (int state = 0; state <= 10; state++) {
            Check.run("say: NO if the state is not SYN_SENT, SYN_RECEIVED, ESTABLISHED or CLOSE_WAIT: " + state,
                    States.RUNS[state], "say(0, 1) = " + due[state] + ";",
                    "end(0, 4) = " + Math.max(0, due[state]) + ";");
        }
        for (String run : States.RELEASING) {
            Check.run("say: NO if the endpoint is releasing", run, "end(0, 13) = 1; say(0, 1) = -2;");
        }
        for (String run : States.USED) {
            Check.run("say: NO when it is CLOSED again", run, "say(0, 1) = -2;");
        }
    }

    private static void sayPending() {
        for (String run : States.FULL_PENDING) {
            Check.run("say: FULL if there are 32 pending bytes already", run, "end(0, 4) = 32; say(0, 1) = -3; "
                    + "end(0, 4) = 32;");
        }
        Check.run("say: how many pending bytes there are", OPEN, "say(0, 1) = 1; say(0, 2) = 2; arrive(0) = 1; arrive(0) = 1; "
                + "end(0, 4) = 1; say(0, 3) = 2;");
        Check.run("say: 31 pending bytes", OPEN, Check.says(0, 1, 31), "say(0, 7) = 32;");
        Check.run("then the endpoint transmits", OPEN, "say(0, 1) = 1; count(5) = 1; end(0, 2) = 2;");
    }

    private static void cryStates() {
        int[] written = {0, 0, 2, 2, 2, 0, 0, 2, 0, 0, 0};
        for (int state = 0; state <= 10; state++) {
            Check.run("cry: NO if no byte has been written since the start, state " + state, States.RUNS[state],
                    "cry(0) = -2; end(0, 14) = 0;");
            if (written[state] != 0) {
                Check.run("cry: one byte has been written, state " + state, States.RUNS[state],
                        "say(0, 1) = 1; cry(0) = 2; end(0, 14) = 2;");
            }
        }
        Check.run("cry: NO as for say(): CLOSED", OPEN, "say(0, 1) = 1; quit(0) = 4; cry(0) = -2; end(0, 14) = 0;");
        Check.run("cry: NO as for say(): FIN_WAIT_1 and FIN_WAIT_2", OPEN, "say(0, 1) = 1; leave(0) = 5; cry(0) = -2; "
                + "arrive(0) = 1 x 2; arrive(0) = 1 x 2; end(0, 0) = 6; cry(0) = -2;");
        Check.run("cry: NO as for say(): LAST_ACK", States.RUNS[7], "say(0, 1) = 1; leave(0) = 9; cry(0) = -2; "
                + "end(0, 14) = 0;");
        for (int k = 1; k <= 2; k++) {
            Check.run("cry: NO as for say(): releasing", States.RELEASING[k], "cry(0) = -2; end(0, 14) = 0;");
        }
        Check.run("cry: no byte has been written since the start, after it is opened again", OPEN,
                "say(0, 1) = 1; cry(0) = 2; quit(0) = 4; open(0, 1) = 3; cry(0) = -2; end(0, 14) = 0;");
        for (String run : States.FULL_PENDING) {
            Check.run("cry: not FULL with 32 pending bytes", run, "cry(0) = 33; end(0, 14) = 33;");
        }
    }

    private static void cryUrgent() {
        Check.run("cry: the position after the last byte that has been written", OPEN,
                "say(0, 1) = 1; cry(0) = 2; cry(0) = 2; say(0, 2) = 2; end(0, 14) = 2; cry(0) = 3; end(0, 14) = 3;",
                "arrive(0) = 1 x 2; cry(0) = 3; say(0, 3) = 2; cry(0) = 4;");
        Check.run("cry: bytes that are acknowledged have been written, too", OPEN, "say(0, 1) = 1; arrive(0) = 1 x 2; "
                + "end(0, 4) = 0; cry(0) = 2;");
    }

    private static void leaveStates() {
        int[] due = {-2, 0, 0, 3, 5, -2, -2, 9, -2, -2, -2};
        for (int state = 0; state <= 10; state++) {
            int then = due[state] < 0 ? state : due[state];
            int releasing = state >= 3 ? 1 : 0;
            Check.run("leave: state " + state, States.RUNS[state], "leave(0) = " + due[state] + "; end(0, 0) = " + then
                    + "; end(0, 13) = " + releasing + "; leave(0) = -2;");
        }
        for (String run : States.RELEASING) {
            Check.run("leave: NO if it is releasing already", run, "end(0, 13) = 1; leave(0) = -2;");
        }
        for (String run : States.USED) {
            Check.run("leave: NO when it is CLOSED again", run, "leave(0) = -2;");
        }
        Check.run("leave: an endpoint that was CLOSED by it can be opened", "open(0, 0) = 0; leave(0) = 0; open(0, 1) = 1; "
                + "leave(0) = 0; open(0, 0) = 1;");
        Check.run("leave: releasing and transmits", OPEN, "say(0, 1) = 1; say(0, 2) = 2; count(5) = 1; leave(0) = 5; "
                + "count(5) = 2;");
    }

    private static void quitStates() {
        int[] resets = {0, 0, 0, 1, 1, 1, 1, 1, 0, 0, 0};
        int[] number = {0, 0, 0, 251, 251, 252, 252, 251, 0, 0, 0};
        for (int state = 1; state <= 10; state++) {
            StreamEnds x = new StreamEnds();
            String title = "quit: state " + state;
            Check.play(title, x, States.RUNS[state]);
            int size = x.count(5);
            Check.play(title, x, "quit(0) = " + state + "; end(0, 0) = 0; end(0, 11) = 0; end(0, 12) = 0; count(5) = " + (size
                    + resets[state]) + "; quit(0) = -2;");
            if (resets[state] == 1) {
                Check.play(title + ": an RST with the number of sent", x, "letter(" + size + ", 1) = 8; letter(" + size
                        + ", 2) = " + number[state] + "; letter(" + size + ", 0) = 0;");
            }
        }
        Check.run("quit: NO if it is CLOSED already", "quit(0) = -2; quit(1) = -2; count(7) = 0;");
        for (String run : States.USED) {
            Check.run("quit: NO if it is CLOSED already", run, "quit(0) = -2;");
        }
        for (String run : States.RELEASING) {
            Check.run("quit: a releasing endpoint", run, "quit(0) = "
                    + (run.contains("leave(0) = 3") ? 3 : run.contains("leave(0) = 4") ? 4 : 7) + "; end(0, 0) = 0;");
        }
    }

    private static void takeBytes() {
        for (int state = 0; state <= 10; state++) {
            Check.run("take: NONE if there is none (in any state): " + state, States.RUNS[state],
                    "take(0) = -4; end(0, 6) = 1;");
        }
        Check.run("take: if this is less than expected", OPEN, "take(1) = -4; say(0, 7) = 1; take(1) = -4; arrive(0) = 1; "
                + "take(1) = 7; end(1, 6) = 2; take(1) = -4; end(1, 6) = 2;");
        Check.run("take: and is not fin", OPEN, "say(0, 7) = 1; leave(0) = 5; arrive(0) = 1 x 2; end(1, 17) = 2; "
                + "end(1, 5) = 3; take(1) = 7; take(1) = -4; end(1, 6) = 2; take(1) = -4;");
        Check.run("take: fin is the first position", OPEN, "leave(0) = 5; arrive(0) = 1; end(1, 17) = 1; end(1, 5) = 2; "
                + "take(1) = -4; end(1, 6) = 1;");
        Check.run("take: a held byte is not there yet", OPEN, Check.says(0, 1, 5), "arrive(1) = 1; take(1) = -4; "
                + "arrive(0) = 1; take(1) = 1; take(1) = 2;");
        Check.run("take: if this is less than expected, though fin is noted behind it", OPEN, Check.says(0, 1, 3),
                "leave(0) = 5; arrive(1) = 1; end(1, 17) = 4; end(1, 5) = 1; take(1) = -4; end(1, 6) = 1; arrive(0) = 1; "
                + "take(1) = 1; take(1) = 2; take(1) = 3; take(1) = -4;");
        Check.run("take: when it is CLOSED", States.USED[2], "take(0) = 2; take(0) = -4;");
        Check.run("take: in CLOSE_WAIT, LAST_ACK", OPEN, "say(1, 7) = 1; say(1, 8) = 2; leave(1) = 5; arrive(0) = 1 x 2; "
                + "end(0, 0) = 7; take(0) = 7; leave(0) = 9; take(0) = 8; take(0) = -4;");
        Check.run("take: the bytes 0 and 255", OPEN, "say(0, 0) = 1; arrive(0) = 1 x 2; say(0, 255) = 1; arrive(0) = 1; "
                + "take(1) = 0; take(1) = 255; take(1) = -4;");
    }

    private static void takeWidens() {
        String s = "take: If g is at least the segment size, limit increases by g";
        for (int p = 1; p <= 8; p++) {
            StreamEnds x = new StreamEnds();
            Check.write(x, "p" + p + ";b" + 2 * p + ";");
            Check.play(s, x, "lay() = " + p + ";", OPEN, Check.says(0, 1, 2 * p));
            while (x.count(5) > 0) {
                x.arrive(0);
            }
            Check.same(s + ": some bytes are there", x.end(1, 5) > p ? 1 : 0, 1);
            for (int k = 1; k < p; k++) {
                Check.play(s + ": less", x, "take(1) = " + k + "; end(1, 7) = " + (2 * p + 1) + ";");
            }
            Check.play(s + ": equal", x, "take(1) = " + p + "; end(1, 7) = " + (3 * p + 1) + ";");
        }
        Check.runWith("p2;b32;", s + ": a large buffer", OPEN, "say(0, 1) = 1; arrive(0) = 1; take(1) = 1; end(1, 7) = 33; "
                + "arrive(0) = 1; say(0, 2) = 1; arrive(0) = 1; take(1) = 2; end(1, 7) = 35;");
        Check.runWith("p2;b5;", s + ": g is not left over", OPEN, Check.says(0, 1, 3),
                "arrive(0) = 1 x 2; take(1) = 1; end(1, 7) = 6; take(1) = 2; end(1, 7) = 8; take(1) = 3; end(1, 7) = 8;");
    }

    private static void takeTellsThePeer() {
        String s = "take: if w was less than the segment size";
        Check.runWith("p3;b7;", s + ": less by 2", OPEN, Check.says(0, 1, 6), "arrive(0) = 1 x 6; end(1, 5) = 7; "
                + "end(1, 7) = 8; count(5) = 0; take(1) = 1; take(1) = 2; count(5) = 0;",
                "take(1) = 3; end(1, 7) = 11; count(5) = 1; letter(0, 0) = 1; letter(0, 4) = 4; letter(0, 5) = 0;");
        Check.runWith("p2;b6;", s + ": less by 1", OPEN, "say(0, 1) = 1; arrive(0) = 1 x 2; say(0, 2) = 1; say(0, 3) = 2; "
                + "arrive(0) = 1 x 4; say(0, 4) = 1; say(0, 5) = 2; arrive(0) = 1 x 4; end(1, 5) = 6;",
                "end(1, 7) = 7; count(5) = 0; take(1) = 1; count(5) = 0; take(1) = 2; end(1, 7) = 9; count(5) = 1; "
                        + "letter(0, 4) = 3;");
        Check.runWith("p2;b6;", s + ": equal", OPEN, "say(0, 1) = 1; arrive(0) = 1 x 2; say(0, 2) = 1; say(0, 3) = 2; "
                + "arrive(0) = 1 x 4; say(0, 4) = 1; arrive(0) = 1 x 2; end(1, 5) = 5;",
                "end(1, 7) = 7; count(5) = 0; take(1) = 1; take(1) = 2; end(1, 7) = 9; count(5) = 0;");
        Check.runWith("p1;b2;", s + ": the window is 0", OPEN, Check.says(0, 1, 2), "arrive(0) = 1 x 4; take(1) = 1; "
                + "count(5) = 1; letter(0, 0) = 1; letter(0, 4) = 1; letter(0, 3) = 3;");
        String full = "say(1, 1) = 1; say(1, 2) = 2;";
        Check.runWith("p1;b2;", s + " and the state is ESTABLISHED", OPEN, full, "arrive(0) = 1 x 4; end(0, 0) = 4; "
                + "take(0) = 1; count(5) = 1;");
        Check.runWith("p1;b2;", s + " and the state is FIN_WAIT_1", OPEN, full, "leave(0) = 5; lose(2) = 2; arrive(0) = 1 x 4; "
                + "end(0, 0) = 5; take(0) = 1; count(5) = 1;");
        Check.runWith("p1;b2;", s + " and the state is FIN_WAIT_2", States.RUNS[6], full,
                "arrive(0) = 1 x 4; end(0, 0) = 6; take(0) = 1; count(5) = 1;");
        Check.runWith("p1;b2;", s + ", but the state is CLOSE_WAIT", OPEN, "say(1, 1) = 1; leave(1) = 5; arrive(0) = 1 x 4; "
                + "end(0, 0) = 7; end(0, 5) = 3; end(0, 7) = 3; take(0) = 1; end(0, 7) = 4; count(5) = 0;");
        Check.runWith("p1;b2;", s + ", but the state is CLOSED", OPEN, full, "arrive(0) = 1 x 4; quit(0) = 4; take(0) = 1; "
                + "end(0, 7) = 4; count(5) = 1;");
        Check.runWith("p1;b2;", s + ", but the state is CLOSING", OPEN, "leave(0) = 5; lose(0) = 0; say(1, 1) = 1; "
                + "leave(1) = 5; arrive(0) = 1; arrive(0) = 1; end(0, 0) = 8; count(5) = 2; take(0) = 1; end(0, 7) = 4; "
                + "count(5) = 2;");
        Check.runWith("p1;b2;", s + ", but the state is LAST_ACK", OPEN, "say(1, 1) = 1; leave(1) = 5; arrive(0) = 1 x 4; "
                + "leave(0) = 9; count(5) = 1; take(0) = 1; end(0, 7) = 4; count(5) = 1;");
        Check.runWith("p1;b2;", s + ", but the state is TIME_WAIT", States.RUNS[6], "say(1, 1) = 1; leave(1) = 9; "
                + "arrive(0) = 1 x 2; end(0, 0) = 10; count(5) = 2; take(0) = 1; end(0, 7) = 4; count(5) = 2;");
    }
}
