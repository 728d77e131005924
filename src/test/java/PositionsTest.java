/** "Endpoints and positions": numbers that wrap around, what stands at the start, and what is counted. */
public final class PositionsTest {
    private static final String OPEN = States.OPEN;

    public static void main(String[] args) {
        statesAndTime();
        numbersWrapAround();
        numbersWrapAroundTwice();
        otherNumbersWrapAround();
        numberNearPosition();
        ackNumberNearPosition();
        oldNumberNearPosition();
        farPositions();
        fin();
        pendingBytes();
        unsentBytes();
        ranges();
        expectedIsInNoRange();
        marked();
        window();
        valuesAtTheStart();
        closedKeepsItsValues();
        closedKeepsEachValue();
        openedHasEachValueOfTheStart();
        Check.end("PositionsTest");
    }

    private static void statesAndTime() {
        Check.run("At first both are CLOSED", "end(0, 0) = 0; end(1, 0) = 0;");
        for (int state = 0; state <= 10; state++) {
            Check.run("Their states are 0 to 10", States.RUNS[state], "end(0, 0) = " + state + ";");
        }
        Check.run("There is a time in ticks, 0 at first", "count(6) = 0; pass(1) = 1; count(6) = 1;");
    }

    private static void numbersWrapAround() {
        String s = "(initial number of the endpoint + position) modulo 256";
        for (int k = 1, number = 251; k <= 9; k++, number++) {
            // Nine bytes, the position k of which is byte k: 251, .. 255, 0, 1, ..
            StringBuilder run = new StringBuilder(OPEN);
            for (int j = 1; j < k; j++) {
                run.append("say(0, 1) = 1; arrive(0) = 1 x 2;");
            }
            Check.run(s, run.toString(), "say(0, 1) = 1; letter(0, 2) = " + number % 256 + ";", "arrive(0) = 1;",
                    "letter(0, 3) = " + (number + 1) % 256 + ";");
        }
        Check.runWith("f255,254;", s + ": SYN and its acknowledgment", "open(1, 0) = 0; open(0, 1) = 1; letter(0, 2) = 255;",
                "arrive(0) = 1; letter(0, 2) = 254; letter(0, 3) = 0; arrive(0) = 1; letter(0, 2) = 0; letter(0, 3) = 255;");
        Check.runWith("f0,253;", s + ": from 0 on", "open(1, 0) = 0; open(0, 1) = 1; letter(0, 2) = 0; arrive(0) = 1;",
                "letter(0, 2) = 253; letter(0, 3) = 1; arrive(0) = 1; letter(0, 2) = 1; letter(0, 3) = 254;");
        Check.runWith("f254,0;", s + ": FIN at 255", OPEN, "leave(0) = 5; letter(0, 2) = 255; arrive(0) = 1; "
                + "letter(0, 3) = 0;");
        Check.runWith("f255,0;", s + ": FIN at 0", OPEN, "leave(0) = 5; letter(0, 2) = 0; arrive(0) = 1; letter(0, 3) = 1;");
    }

    private static void numbersWrapAroundTwice() {
        Check.run("the number of position 256 is that of position 0", States.FAR, Check.says(0, 1, 31), "arrive(0) = 1 x 9;",
                "say(0, 7) = 1; letter(0, 2) = 0; byteOf(0, 0) = 7; arrive(0) = 1; letter(0, 3) = 1; end(1, 5) = 257;");
    }

    private static void otherNumbersWrapAround() {
        String urgent = OPEN + "say(0, 1) = 1; cry(0) = 2; pass(3) = 3;";
        Check.runWith("f253,0;", "the urgent number 255", urgent, "letter(1, 7) = 255; arrive(1) = 1; end(1, 15) = 2;");
        Check.runWith("f254,0;", "the urgent number 0", urgent, "letter(1, 7) = 0; arrive(1) = 1; end(1, 15) = 2;");
        String range = OPEN + Check.says(0, 1, 5) + "arrive(1) = 1; letter(1, 6) = 1;";
        String known = "arrive(1) = 1; known(0, 1) = 0; known(0, 2) = 1; known(0, 5) = 1; known(0, 6) = 0;";
        Check.runWith("f249,0;", "a range before 0", range, "letter(1, 8) = 251; letter(1, 9) = 255;", known);
        Check.runWith("f250,0;", "a range up to 0", range, "letter(1, 8) = 252; letter(1, 9) = 0;", known);
        Check.runWith("f251,0;", "a range over 0", range, "letter(1, 8) = 253; letter(1, 9) = 1;", known);
        Check.runWith("f253,0;", "a range that ends behind 0", range, "letter(1, 8) = 255; letter(1, 9) = 3;", known);
        Check.runWith("f254,0;", "a range from 0 on", range, "letter(1, 8) = 0; letter(1, 9) = 4;", known);
        Check.runWith("f254,0;", "the number of an RST, 255", OPEN, "quit(0) = 4; letter(0, 2) = 255; arrive(0) = 1; "
                + "end(1, 0) = 0;");
        Check.runWith("f255,0;", "the number of an RST, 0", OPEN, "quit(0) = 4; letter(0, 2) = 0; arrive(0) = 1; "
                + "end(1, 0) = 0;");
        Check.runWith("f254,0;", "the ack number of an RST in answer, 255", "open(0, 1) = 1; arrive(0) = 0; "
                + "letter(0, 3) = 255; arrive(0) = 1;");
        Check.runWith("f255,0;", "the ack number of an RST in answer, 0", "open(0, 1) = 1; arrive(0) = 0; letter(0, 3) = 0; "
                + "arrive(0) = 1;");
        String probe = OPEN + "say(0, 1) = 1; say(0, 2) = 2; say(0, 3) = 3; arrive(0) = 1 x 4; pass(3) = 3;";
        Check.runWith("p1;b2;f253,0;", "the number of a probe, 255", probe, "letter(0, 2) = 255; arrive(0) = 0; "
                + "letter(0, 3) = 0;");
        Check.runWith("p1;b2;f254,0;", "the number of a probe, 0", probe, "letter(0, 2) = 0; arrive(0) = 0; letter(0, 3) = 1;");
    }

    /** An RST with ACK has the number 0, so the initial numbers tell how far that is from expected. */
    private static void numberNearPosition() {
        String run = "open(0, 1) = 1; twice(0) = 2; arrive(0) = 0; open(1, 0) = 2; arrive(0) = 1; arrive(1) = 1; end(0, 5) = 1;"
                + "letter(0, 1) = 12; letter(0, 2) = 0;";
        Check.runWith("f0,128;", "near p: p + 127 is the last one", run, "arrive(0) = 0; cause(0) = 6; cause(1) = 8;");
        Check.runWith("f0,127;", "near p: p + 128 is p - 128", run, "arrive(0) = 0; cause(0) = 6; cause(1) = 9;");
        Check.runWith("f0,126;", "near p: p - 127", run, "arrive(0) = 0; cause(0) = 6; cause(1) = 9;");
        Check.runWith("f0,0;", "near p: p - 1", run, "arrive(0) = 0; cause(0) = 6; cause(1) = 9; end(0, 0) = 4;");
        Check.runWith("f0,255;", "near p: p itself", run, "arrive(0) = 1; cause(0) = -4; end(0, 0) = 0;");
        Check.runWith("f0,254;", "near p: p + 1", run, "arrive(0) = 1; cause(0) = -4; end(0, 0) = 0;");
        Check.runWith("f0,240;", "near p: p + 15 is the last in the window", run, "arrive(0) = 1; cause(0) = -4; "
                + "end(0, 0) = 0;");
        Check.runWith("f0,239;", "near p: p + 16 is behind the window", run, "arrive(0) = 0; cause(0) = 6; cause(1) = 8;");
    }

    /** So many bytes go from endpoint 0 to endpoint 1 and are taken; the wire is empty then. */
    private static StreamEnds brought(int bytes) {
        StreamEnds x = new StreamEnds();
        Check.write(x, "p8;b32;");
        Check.play("bytes are brought over", x, "lay() = 8;", OPEN);
        for (int said = 0; said < bytes; said += 32) {
            int n = Math.min(32, bytes - said);
            for (int k = 1; k <= n; k++) {
                Check.same("say", x.say(0, k), k);
            }
            allArrive(x);
            for (int k = 1; k <= n; k++) {
                Check.same("take", x.take(1), k);
            }
            allArrive(x);
        }
        Check.same("all bytes are there", x.end(1, 6), bytes + 1);
        return x;
    }

    private static void allArrive(StreamEnds x) {
        while (x.count(5) > 0) {
            Check.same("arrive", x.arrive(0), 1);
        }
    }

    /** Both ends are CLOSED and opened again, while one old segment stays on the wire. */
    private static final String REOPENED = "count(5) = 1; quit(0) = 4; quit(1) = 4; lose(2) = 2; lose(1) = 1;"
            + States.OPEN_AGAIN
            + "count(5) = 1;";

    private static void ackNumberNearPosition() {
        Check.play("near acked: acked + 127", brought(126), "say(0, 7) = 1; arrive(0) = 1; letter(0, 3) = 128;", REOPENED,
                "end(0, 1) = 1; arrive(0) = 0; cause(0) = 5; count(5) = 1;");
        Check.play("near acked: acked + 128 is acked - 128", brought(127), "say(0, 7) = 1; arrive(0) = 1; letter(0, 3) = 129;",
                REOPENED,
                "arrive(0) = 1; cause(0) = -4; end(0, 1) = 1; end(0, 3) = 33; count(5) = 0;");
        Check.play("near acked, not near sent", brought(127), "say(0, 7) = 1; arrive(0) = 1; letter(0, 3) = 129;", REOPENED,
                "say(0, 1) = 1; end(0, 2) = 2;",
                "arrive(0) = 1; cause(0) = -4; end(0, 1) = 1;");
        Check.play("near acked, when acked is 2", brought(127), "say(0, 7) = 1; arrive(0) = 1; letter(0, 3) = 129;", REOPENED,
                "say(0, 1) = 1; arrive(1) = 1; arrive(1) = 1;",
                "end(0, 1) = 2; arrive(0) = 0; cause(0) = 5;");
    }

    private static void oldNumberNearPosition() {
        Check.play("near expected: expected + 127", brought(127), "say(0, 7) = 1; letter(0, 2) = 128;", REOPENED,
                "end(1, 5) = 1; arrive(0) = 0; cause(0) = 6; cause(1) = 8;");
        Check.play("near expected: expected + 128 is expected - 128 (perhaps negative)", brought(128),
                "say(0, 7) = 1; letter(0, 2) = 129;",
                REOPENED, "end(1, 5) = 1; arrive(0) = 0; cause(0) = 6; cause(1) = 9;");
        Check.play("near expected, when expected is 2", brought(128), "say(0, 7) = 1; letter(0, 2) = 129;", REOPENED,
                "say(0, 1) = 1; arrive(1) = 1; lose(1) = 1;",
                "end(1, 5) = 2; end(1, 6) = 1; arrive(0) = 0; cause(0) = 6; cause(1) = 8;");
    }

    /** Positions over 128 are interpreted near acked and expected, not near 0. */
    private static void farPositions() {
        String five = "say(0, 1) = 1; say(0, 2) = 2; say(0, 3) = 3; say(0, 4) = 4; say(0, 5) = 5; say(0, 6) = 6; "
                + "say(0, 7) = 7; say(0, 8) = 8; say(0, 9) = 9;";
        Check.play("near acked: the numbers of a range", brought(140), five, "arrive(1) = 1; arrive(1) = 1; known(0, 141) = 0; "
                + "known(0, 142) = 1; known(0, 149) = 1; known(0, 150) = 0;",
                "span(1, 0, 0) = 142; span(1, 0, 1) = 150;");
        Check.play("near expected: the urgent number", brought(140), five, "cry(0) = 150; lose(1) = 1; lose(0) = 0; "
                + "pass(3) = 3; letter(0, 2) = 141; letter(0, 7) = 150; arrive(0) = 1;",
                "end(1, 15) = 150; end(1, 5) = 149;");
        Check.play("near expected: FIN", brought(140), "leave(0) = 5; letter(0, 2) = 141; arrive(0) = 1; end(1, 17) = 141; "
                + "arrive(0) = 1; end(0, 1) = 142; end(0, 0) = 6;");
    }

    private static void fin() {
        Check.run("the position after the last byte is its FIN: no byte", OPEN, "leave(0) = 5; arrive(0) = 1; end(1, 17) = 1;");
        Check.run("the position after the last byte is its FIN: bytes", OPEN, Check.says(0, 1, 5),
                "leave(0) = 5; arrive(0) = 1;",
                "end(1, 17) = -4; arrive(0) = 1; end(1, 17) = -4; letter(0, 1) = 6; letter(0, 2) = 0; arrive(0) = 1; "
                        + "end(1, 17) = 6;");
    }

    private static void pendingBytes() {
        Check.run("pending: none at the start", "end(0, 4) = 0; open(0, 1) = 1; end(0, 4) = 0;");
        Check.run("pending: all when acked is 0", "open(0, 1) = 1; end(0, 1) = 0; say(0, 1) = 1; say(0, 2) = 2; "
                + "end(0, 4) = 2;");
        Check.run("pending: at positions that are at least acked", OPEN, Check.says(0, 1, 6), "arrive(0) = 1; arrive(1) = 1;",
                "end(0, 1) = 2; end(0, 4) = 5; arrive(0) = 1 x 2; end(0, 1) = 6; end(0, 4) = 1; arrive(0) = 1 x 2; "
                        + "end(0, 1) = 7;",
                "end(0, 4) = 0; leave(0) = 5; arrive(0) = 1 x 2; end(0, 1) = 8; end(0, 4) = 0;");
        Check.run("pending: at most 32", OPEN, Check.says(0, 1, 31), "say(0, 5) = 32; say(0, 6) = -3; end(0, 4) = 32;");
        Check.run("pending: 32 once more when one is acknowledged", OPEN, Check.says(0, 1, 32),
                "say(0, 5) = -3; arrive(0) = 1; arrive(2) = 1;",
                "end(0, 1) = 2; end(0, 4) = 31; say(0, 5) = 32; say(0, 6) = -3;");
    }

    private static void unsentBytes() {
        Check.run("unsent: at positions that are at least sent", OPEN, Check.says(0, 1, 9),
                "end(0, 2) = 10; say(0, 10) = 10; end(0, 2) = 10;",
                "lose(0) = 2; lose(0) = 1; arrive(0) = 1; lose(0) = 0; say(0, 11) = 11; say(0, 12) = 12; end(0, 2) = 10; "
                        + "say(0, 13) = 13;",
                "end(0, 2) = 10; end(0, 3) = 13;");
        Check.runWith("p2;b32;", "unsent: a whole segment", OPEN, "say(0, 1) = 1; end(0, 2) = 2; say(0, 2) = 2; end(0, 2) = 2;",
                "say(0, 3) = 3; end(0, 2) = 4;");
    }

    private static void ranges() {
        String s = "A range is a maximal sequence of successive held positions";
        String p1 = OPEN + Check.says(0, 1, 6);
        Check.runWith("p1;b20;", s + ": none", p1, "span(1, -1, 0) = 0; arrive(0) = 1; span(1, -1, 0) = 0; end(1, 5) = 2;");
        Check.runWith("p1;b20;", s + ": one position", p1, "arrive(1) = 1; span(1, -1, 0) = 1; span(1, 0, 0) = 2; "
                + "span(1, 0, 1) = 3;");
        Check.runWith("p1;b20;", s + ": two neighbours", p1, "arrive(2) = 1; arrive(1) = 1; span(1, -1, 0) = 1; "
                + "span(1, 0, 0) = 2; span(1, 0, 1) = 4;");
        Check.runWith("p1;b20;", s + ": two with a gap", p1, "arrive(3) = 1; arrive(1) = 1; span(1, -1, 0) = 2; "
                + "span(1, 0, 0) = 2; span(1, 0, 1) = 3;",
                "span(1, 1, 0) = 4; span(1, 1, 1) = 5;");
        Check.runWith("p1;b20;", s + ": the gap is filled", p1, "arrive(3) = 1; arrive(1) = 1; arrive(1) = 1; "
                + "span(1, -1, 0) = 1; span(1, 0, 0) = 2;",
                "span(1, 0, 1) = 5;");
        Check.runWith("p1;b20;", s + ": positions after expected", p1, "arrive(3) = 1; arrive(1) = 1; arrive(0) = 1; "
                + "end(1, 5) = 3; span(1, -1, 0) = 1;",
                "span(1, 0, 0) = 4; arrive(0) = 1; end(1, 5) = 5; span(1, -1, 0) = 0;");
    }

    /** Bytes of an old connection are held behind FIN, so that expected steps onto one of them. */
    private static void expectedIsInNoRange() {
        Check.run("held: positions after expected, not expected itself", OPEN, Check.says(0, 1, 5),
                "quit(0) = 4; quit(1) = 4; lose(3) = 3; lose(2) = 2; lose(0) = 1;", States.OPEN_AGAIN,
                "arrive(0) = 1; lose(0) = 0; span(1, 0, 0) = 2; span(1, 0, 1) = 6; leave(0) = 5; arrive(0) = 1; end(1, 17) = 1;",
                "end(1, 5) = 2; end(1, 0) = 7; span(1, -1, 0) = 1; span(1, 0, 0) = 3; span(1, 0, 1) = 6; letter(0, 6) = 1;",
                "letter(0, 8) = 253; letter(0, 9) = 0; take(1) = -4;");
    }

    private static void marked() {
        Check.run("marked: positions of which it has learned that the peer holds them", OPEN, Check.says(0, 1, 5),
                "arrive(1) = 1; known(0, 2) = 0; arrive(1) = 1; known(0, 2) = 1; known(0, 5) = 1; known(0, 6) = 0;");
        // The positions 2 to 9 have been marked; no position is when 66 to 73 are sent.
        StreamEnds x = new StreamEnds();
        Check.write(x, "p8;b32;");
        Check.play("marked: none of those that come later", x, "lay() = 8;", OPEN, Check.says(0, 1, 9),
                "arrive(1) = 1 x 2; known(0, 2) = 1; known(0, 9) = 1; known(0, 10) = 0;");
        allArrive(x);
        for (int k = 10; k <= 73; k++) {
            if (k > 10) {
                Check.same("take", x.take(1) > 0 ? 1 : 0, 1);
            }
            Check.same("say", x.say(0, k) > 0 ? 1 : 0, 1);
            if (k < 65) {
                allArrive(x);
            }
        }
        for (int place = 60; place <= 75; place++) {
            Check.same("marked: known(0, " + place + ")", x.known(0, place), 0);
        }
        Check.same("the positions have been sent", x.end(0, 2) > 73 ? 1 : 0, 1);
    }

    private static void window() {
        Check.run("The window is limit - expected", OPEN, "letter(0, 4) = -1; say(0, 1) = 1; letter(0, 4) = 12; arrive(0) = 1; "
                + "letter(0, 4) = 11;");
        Check.run("The window is limit - expected: FIN takes room", OPEN, "leave(0) = 5; arrive(0) = 1; end(1, 5) = 2; "
                + "end(1, 7) = 13; letter(0, 4) = 11;");
        Check.run("The window is limit - expected: held positions take none", OPEN, Check.says(0, 1, 5),
                "arrive(1) = 1; letter(1, 4) = 12;");
        Check.runWith("p1;b2;", "a window of 0", OPEN, "say(0, 1) = 1; say(0, 2) = 2; arrive(0) = 1 x 2; letter(0, 4) = 1; "
                + "letter(1, 4) = 0;",
                "end(1, 5) = 3; end(1, 7) = 3;");
        Check.runWith("p1;b2;", "a window of 0 by FIN", OPEN, "say(0, 1) = 1; leave(0) = 5; arrive(0) = 1 x 2; "
                + "letter(0, 4) = 1; letter(1, 4) = 0;",
                "end(1, 5) = 3; end(1, 7) = 3; end(1, 0) = 7;");
    }

    /** The values of an endpoint at the start, in the order of end(). */
    private static String start(int e, int state, int limit) {
        int[] values = {state, 0, 0, 1, 0, 0, 1, limit, 6, 0, 0, 0, 0, 0, 0, 0, -4, -4};
        StringBuilder calls = new StringBuilder();
        for (int what = 0; what < values.length; what++) {
            calls.append("end(").append(e).append(", ").append(what).append(") = ").append(values[what]).append("; ");
        }
        return calls + "sample(" + e + ", 0) = -4; span(" + e + ", -1, 0) = 0; known(" + e + ", 0) = 0; known(" + e
                + ", 1) = 0;";
    }

    private static void valuesAtTheStart() {
        Check.run("at the start: a new object", start(0, 0, 13), start(1, 0, 13));
        Check.runWith("b32;", "at the start: (buffer size) + 1", start(0, 0, 33), start(1, 0, 33));
        Check.runWith("p1;b2;", "at the start: (buffer size) + 1", start(0, 0, 3), start(1, 0, 3));
        String used = OPEN + Check.says(0, 1, 5) + "say(1, 1) = 1; cry(0) = 6; cry(1) = 2; pass(3) = 3; arrive(3) = 1; "
                + "arrive(1) = 1;"
                + "arrive(1) = 1; quit(0) = 4; quit(1) = 4;";
        Check.run("The start is when the endpoint is opened", used, "end(0, 14) = 6; end(0, 8) = 6; end(1, 5) = 6; "
                + "open(0, 0) = 7;",
                start(0, 1, 13), "end(1, 5) = 6; end(1, 0) = 0;");
        Check.run("The start is when the endpoint is opened", used, "end(1, 14) = 2; open(1, 0) = 7;", start(1, 1, 13),
                "end(0, 14) = 6;");
        Check.run("The start is when the configuration is set up", "write(98) = 1; write(57) = 2; write(59) = 3;", used,
                "lay() = 4;",
                start(0, 0, 10), start(1, 0, 10));
        Check.run("The start is when the endpoint is opened, not when it is CLOSED", used,
                "end(0, 2) = 6; end(0, 5) = 2; sample(0, 0) = 1;");
    }

    private static void closedKeepsItsValues() {
        String s = "An endpoint that becomes CLOSED keeps all its values, except that its timer and its wait timer become 0: ";
        String kept = "end(0, 1) = 1; end(0, 2) = 2; end(0, 3) = 13; end(0, 4) = 2; end(0, 5) = 2; end(0, 6) = 1; "
                + "end(0, 7) = 13;"
                + "end(0, 8) = 3; end(0, 9) = 8; end(0, 10) = 2; end(0, 14) = 2; end(0, 16) = 1; sample(0, 0) = 1; "
                        + "end(0, 11) = 0; end(0, 12) = 0;";
        String busy = OPEN + "say(0, 1) = 1; cry(0) = 2; say(0, 2) = 2; say(1, 3) = 1; arrive(1) = 1; lose(1) = 1; "
                + "end(0, 11) = 3;";
        Check.run(s + "quit()", busy, "quit(0) = 4; end(0, 0) = 0;", kept);
        Check.run(s + "an RST", busy, "quit(1) = 4; arrive(1) = 1; end(0, 0) = 0;", kept);
        Check.run(s + "leave() in SYN_SENT", "open(0, 1) = 1; say(0, 1) = 1; pass(1) = 1; leave(0) = 0; end(0, 2) = 1; "
                + "end(0, 4) = 1; end(0, 16) = 0;",
                "end(0, 11) = 0;");
        Check.run(s + "quit() in TIME_WAIT", States.RUNS[10], "end(0, 12) = 10; quit(0) = 10; end(0, 12) = 0; end(0, 17) = 1; "
                + "end(0, 13) = 1;",
                "end(0, 1) = 2; end(0, 5) = 2;");
        Check.run(s + "the end of TIME_WAIT", States.RUNS[10], "pass(10) = 10; end(0, 0) = 0; end(0, 12) = 0; end(0, 17) = 1; "
                + "end(0, 13) = 1;",
                "end(0, 1) = 2; end(0, 5) = 2;");
        Check.run(s + "the acknowledgment of FIN", States.RUNS[9], "arrive(1) = 1; arrive(1) = 1; end(0, 0) = 0; "
                + "end(0, 1) = 2; end(0, 5) = 2;",
                "end(0, 17) = 1; end(0, 13) = 1; end(0, 11) = 0; end(0, 12) = 0;");
    }

    private static StreamEnds played(String text, String... rows) {
        StreamEnds x = new StreamEnds();
        Check.write(x, text);
        Check.same("lay() of " + text, x.lay() > 0 ? 1 : 0, 1);
        Check.play("played", x, rows);
        return x;
    }

    private static final String P1 = "p1;b20;";

    private static void closedKeepsEachValue() {
        for (int e = 0; e <= 1; e++) {
            String quits = "quit(" + e + ") = 5;";
            keeps("quit()", e, played(P1, States.RICH), quits);
            keeps("an RST", 1 - e, played(P1, States.RICH, quits), "arrive(6) = 1;");
        }
        for (int state = 1; state <= 10; state++) {
            keeps("quit() in state " + state, 0, played("", States.RUNS[state]), "quit(0) = " + state + ";");
        }
        keeps("leave() in LISTEN", 0, played("", States.RUNS[1]), "leave(0) = 0;");
        keeps("leave() in SYN_SENT", 0, played("", States.FULL_PENDING[0]), "leave(0) = 0;");
        keeps("the end of TIME_WAIT", 0, played("", States.RUNS[10]), "pass(10) = 10;");
    }

    private static void keeps(String how, int e, StreamEnds x, String becomesClosed) {
        String title = "An endpoint that becomes CLOSED keeps all its values, except that its timer and its wait timer become 0: "
                + how;
        String before = Look.kept(x, e);
        Check.play(title, x, becomesClosed, "end(" + e + ", 0) = 0; end(" + e + ", 11) = 0; end(" + e + ", 12) = 0;");
        Check.same(title + ": all values", Look.kept(x, e).equals(before) ? 1 : 0, 1);
    }

    /** None of the values is that at the start when the endpoint becomes CLOSED, and each is when it is opened. */
    private static void openedHasEachValueOfTheStart() {
        StreamEnds rich = played(P1, States.RICH);
        int[] atTheStart = {0, 0, 0, 1, 0, 0, 1, 21, 6, 0, 0, 0, 0, 0, 0, 0, -4, -4};
        for (int what = 0; what <= 17; what++) {
            boolean waits = what == 12;
            Check.same("a value that is not that at the start: " + what, rich.end(0, what) != atTheStart[what] || waits ? 1 : 0, 1);
            Check.same("a value that is not that at the start: " + what, rich.end(1, what) != atTheStart[what] || waits ? 1 : 0, 1);
        }
        Check.play("ranges and marks", rich, "span(0, -1, 0) = 1; span(1, -1, 0) = 1; known(0, 4) = 1; known(1, 4) = 1;");
        for (int e = 0; e <= 1; e++) {
            StreamEnds x = played(P1, States.RICH, "quit(" + e + ") = 5; open(" + e + ", 0) = 7;");
            Check.play("The start is, for an endpoint, when it is opened", x, start(e, 1, 21), "known(" + e + ", 4) = 0; sample("
                    + e + ", 1) = -4;");
            Check.same("the other endpoint stays", Look.kept(x, 1 - e).equals(Look.kept(rich, 1 - e)) ? 1 : 0, 1);
            x = played(P1, States.RICH, "lay() = 1;");
            Check.play("The start is when the configuration is set up", x, start(e, 0, 21), "known(" + e + ", 4) = 0; sample("
                    + e + ", 1) = -4;");
            Check.play("opened again, it comes to the same state by the same calls", played(P1, States.RICH,
                    "quit(0) = 5; quit(1) = 5; lose(7) = 7; lose(6) = 6; lose(5) = 5; lose(4) = 4; lose(3) = 3; lose(2) = 2; "
                    + "lose(1) = 1; lose(0) = 0;"), OPEN, "say(" + e + ", 9) = 1; end(" + e + ", 1) = 1; end(" + e
                    + ", 2) = 2; end(" + e + ", 8) = 3; letter(0, 7) = -4; letter(0, 6) = 0;");
        }
    }
}
