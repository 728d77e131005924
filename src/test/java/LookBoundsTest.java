/** Promises 18 to 25, at the edges: arguments just in and just out of range, and what there is none of. */
public final class LookBoundsTest {
    private static final String OPEN = States.OPEN;
    private static final int MIN = Integer.MIN_VALUE, MAX = Integer.MAX_VALUE;
    private static final int[] NO_ENDS = {MIN, -1, 2, 3, MAX};

    public static void main(String[] args) {
        endpointsInRange();
        endWhat();
        endNone();
        sampleIndexes();
        spanArguments();
        spanRanges();
        knownPlaces();
        letterWhat();
        letterNone();
        bytesOfASegment();
        causeIndexes();
        causeNone();
        countWhat();
        countLosses();
        countRetransmissions();
        countDropped();
        Check.end("LookBoundsTest");
    }

    private static void endpointsInRange() {
        for (int e : NO_ENDS) {
            Check.run("BAD if there is no such endpoint", States.HOLDING, "end(" + e + ", 0) = -1; sample(" + e
                    + ", 0) = -1; span(" + e + ", -1, 0) = -1; span(" + e + ", 0, 1) = -1;",
                    "known(" + e + ", 0) = -1; known(" + e + ", 6) = -1;");
        }
    }

    private static void endWhat() {
        for (int what : new int[] {MIN, -1, 18, 19, MAX}) {
            Check.run("end: BAD if an argument is out of range", "end(0, " + what + ") = -1; end(1, " + what + ") = -1; end(2, "
                    + what + ") = -1;");
        }
        Check.run("end: 0, its state", OPEN, "end(0, 0) = 4; end(1, 0) = 4;");
        Check.run("end: 1, acked", OPEN, "say(0, 1) = 1; arrive(0) = 1 x 2; end(0, 1) = 2; end(1, 1) = 1;");
        Check.run("end: 2, sent", OPEN, Check.says(0, 1, 5), "end(0, 2) = 6; end(1, 2) = 1;");
        Check.run("end: 3, edge", "open(1, 0) = 0; open(0, 1) = 1; arrive(0) = 1 x 2; end(0, 3) = 13; end(1, 3) = 1;");
        Check.run("end: 4, how many pending bytes there are", OPEN, Check.says(0, 1, 7), "end(0, 4) = 7; end(1, 4) = 0;");
        Check.run("end: 5, expected", OPEN, "say(0, 1) = 1; arrive(0) = 1; end(1, 5) = 2; end(0, 5) = 1;");
        Check.run("end: 6, consumed", OPEN, "say(0, 1) = 1; arrive(0) = 1; end(1, 6) = 1; take(1) = 1; end(1, 6) = 2; "
                + "end(0, 6) = 1;");
        Check.runWith("p1;b9;", "end: 7, limit", OPEN, "say(0, 1) = 1; arrive(0) = 1; end(1, 7) = 10; take(1) = 1; "
                + "end(1, 7) = 11; end(0, 7) = 10;");
        Check.run("end: 8, 9 and 10, the timeout, the smoothed value, the spread", "open(1, 0) = 0; open(0, 1) = 1; "
                + "arrive(0) = 1; pass(2) = 2; arrive(0) = 1; end(0, 8) = 6; end(0, 9) = 16; end(0, 10) = 4;",
                "end(1, 8) = 6; end(1, 9) = 0; end(1, 10) = 0;");
        Check.run("end: 11, the timer", OPEN, "say(0, 1) = 1; pass(1) = 1; end(0, 11) = 2; end(1, 11) = 0;");
        Check.run("end: 12, the wait timer", States.RUNS[10], "pass(1) = 1; end(0, 12) = 9; end(1, 12) = 0; end(0, 11) = 0;");
        Check.run("end: 13, 1 if it is releasing, 0 if not", OPEN, "end(0, 13) = 0; leave(0) = 5; end(0, 13) = 1; "
                + "end(1, 13) = 0;");
        Check.run("end: 14 and 15, urgent and urged", OPEN, "say(0, 1) = 1; cry(0) = 2; pass(3) = 3; arrive(1) = 1; "
                + "end(0, 14) = 2; end(0, 15) = 0; end(1, 14) = 0; end(1, 15) = 2;");
        Check.run("end: 16, the timed position", OPEN, "say(0, 1) = 1; end(0, 16) = 1; end(1, 16) = -4;");
        Check.run("end: 17, fin", OPEN, "say(0, 1) = 1; leave(0) = 5; arrive(1) = 1; end(1, 17) = 2; end(0, 17) = -4;");
    }

    private static void endNone() {
        Check.run("end: the timed position, or NONE", "end(0, 16) = -4; open(0, 1) = 1; end(0, 16) = 0; pass(6) = 6; "
                + "end(0, 16) = -4;");
        Check.run("end: fin, or NONE if it is not noted", OPEN, "end(1, 17) = -4; leave(0) = 5; end(1, 17) = -4; "
                + "end(0, 17) = -4; arrive(0) = 1; end(1, 17) = 1; end(0, 17) = -4;");
        Check.run("end: urgent and urged, 0 for none", OPEN, "say(0, 1) = 1; end(0, 14) = 0; arrive(0) = 1; end(1, 15) = 0;");
    }

    private static void sampleIndexes() {
        for (int i : new int[] {MIN, -2, -1}) {
            Check.run("sample: BAD if i is negative", "sample(0, " + i + ") = -1;", OPEN, "sample(0, " + i
                    + ") = -1; sample(1, " + i + ") = -1;");
        }
        Check.run("sample: NONE if there are not so many: none", "sample(0, 0) = -4; sample(1, 0) = -4; sample(0, 5) = -4; "
                + "sample(0, 6) = -4; sample(0, 2147483647) = -4;");
        Check.run("sample: NONE if there are not so many: one", OPEN, "sample(0, 0) = 1; sample(0, 1) = -4; sample(0, 5) = -4; "
                + "sample(0, 6) = -4; sample(0, 2147483647) = -4;");
        StringBuilder run = new StringBuilder(OPEN);
        for (int k = 2; k <= 8; k++) {
            run.append("say(0, 1) = 1; arrive(0) = 1 x 2; sample(0, ").append(Math.min(k, 6) - 1).append(") = 1; "
                    + "sample(0, ").append(Math.min(k, 6)).append(") = -4;");
        }
        Check.run("sample: the last 6", run.toString());
        Check.run("sample: since the start", OPEN, "quit(0) = 4; sample(0, 0) = 1; open(0, 0) = 1; sample(0, 0) = -4; "
                + "sample(1, 0) = 1; lay() = 4; sample(1, 0) = -4;");
    }

    private static void spanArguments() {
        for (int i : new int[] {MIN, -3, -2}) {
            Check.run("span: BAD if i is less than -1", States.HOLDING, "span(1, " + i + ", 0) = -1; span(1, " + i
                    + ", 1) = -1;");
        }
        for (int what : new int[] {MIN, -1, 2, MAX}) {
            Check.run("span: BAD if what is not 0 or 1", States.HOLDING, "span(1, 0, " + what + ") = -1; span(1, 7, " + what
                    + ") = -1; span(1, -1, " + what + ") = -1;");
        }
        Check.run("span: it does not matter if i is -1", States.HOLDING, "span(1, -1, 0) = 1; span(1, -1, 1) = 1;");
    }

    private static void spanRanges() {
        Check.run("span: how many ranges there are: none", "span(0, -1, 0) = 0; span(0, 0, 0) = -4; span(0, 0, 1) = -4; "
                + "span(0, 2147483647, 1) = -4;");
        Check.run("span: how many ranges there are: one", States.HOLDING, "span(1, -1, 0) = 1; span(1, 0, 0) = 6; "
                + "span(1, 0, 1) = 10; span(1, 1, 0) = -4; span(1, 1, 1) = -4; span(0, -1, 0) = 0;");
        StringBuilder many = new StringBuilder(OPEN + Check.says(0, 1, 20));
        // Every second byte of 20 arrives, the last first: 2, 4, .. 20.
        for (int i = 19; i >= 1; i -= 2) {
            many.append("arrive(").append(i).append(") = 1; ");
        }
        many.append("span(1, -1, 0) = 10; ");
        for (int i = 0; i < 10; i++) {
            many.append("span(1, ").append(i).append(", 0) = ").append(2 * i + 2).append("; "
                    + "span(1, ").append(i).append(", 1) = ").append(2 * i + 3).append("; ");
        }
        Check.runWith("p1;b32;", "span: in ascending order", many.toString(), "span(1, 10, 0) = -4; span(1, 10, 1) = -4;");
        Check.runWith("p1;b2;", "span: how many ranges there are: none when the window is 0", OPEN, Check.says(0, 1, 2),
                "arrive(0) = 1 x 2; end(1, 5) = 3; end(1, 7) = 3; span(1, -1, 0) = 0; span(1, 0, 0) = -4; span(1, 0, 1) = -4; "
                + "letter(1, 4) = 0; letter(1, 6) = 0;");
        Check.runWith("p1;b2;", "span: how many ranges there are: none when FIN is at limit - 1", OPEN, "say(0, 1) = 1; "
                + "leave(0) = 5; arrive(0) = 1 x 2; end(1, 5) = 3; end(1, 7) = 3; span(1, -1, 1) = 0; span(1, 0, 0) = -4;");
        Check.runWith("p1;b20;", "span: up to limit", OPEN, Check.says(0, 1, 20), "arrive(19) = 1; span(1, -1, 0) = 1; "
                + "span(1, 0, 0) = 20; span(1, 0, 1) = 21; end(1, 7) = 21;");
        Check.run("span: kept when CLOSED, none when it is opened", States.HOLDING, "quit(1) = 4; span(1, -1, 0) = 1; "
                + "span(1, 0, 0) = 6; open(1, 0) = 3; span(1, -1, 0) = 0; span(1, 0, 0) = -4;");
    }

    private static void knownPlaces() {
        for (int place : new int[] {MIN, -2, -1}) {
            Check.run("known: BAD if the position is negative", States.HOLDING, "known(0, " + place + ") = -1; known(1, "
                    + place + ") = -1;");
        }
        Check.run("known: the position, 0 or more", States.HOLDING, "known(0, 0) = 0; known(0, 5) = 0; known(0, 6) = 1; "
                + "known(0, 9) = 1; known(0, 10) = 0; known(0, 70) = 0; known(0, 74) = 0;",
                "known(0, 262) = 0; known(0, 2147483647) = 0; known(1, 6) = 0;");
        Check.run("known: nothing is marked", "known(0, 0) = 0; known(1, 1) = 0;", OPEN, Check.says(0, 1, 5),
                "known(0, 1) = 0; known(0, 2) = 0;");
        Check.run("known: marked and at least acked", OPEN, Check.says(0, 1, 5), "arrive(1) = 1 x 2; known(0, 1) = 0; "
                + "known(0, 2) = 1; known(0, 5) = 1; known(0, 6) = 0; arrive(0) = 1 x 2; end(0, 1) = 6;",
                "known(0, 2) = 0; known(0, 5) = 0;");
        Check.run("known: opened again, with as many bytes", States.HOLDING, "quit(0) = 4; open(0, 0) = 3; known(0, 6) = 0; "
                + "leave(0) = 0; quit(1) = 4; lose(0) = 3; lose(0) = 2; lose(0) = 1; lose(0) = 0;", OPEN,
                Check.says(0, 1, 9), "known(0, 6) = 0; known(0, 9) = 0; end(0, 2) = 10;");
        Check.run("known: kept when CLOSED", States.HOLDING, "quit(0) = 4; known(0, 6) = 1; open(0, 0) = 3; known(0, 6) = 0;");
    }

    private static void letterWhat() {
        for (int what : new int[] {MIN, -1, 12, 13, MAX}) {
            Check.run("letter: BAD if what is out of range", "open(0, 1) = 1; letter(0, " + what + ") = -1; letter(1, " + what
                    + ") = -1; letter(-1, " + what + ") = -1;");
        }
        Check.runWith("p1;b20;f7,9;", "letter: every property", OPEN, Check.says(0, 1, 8),
                "arrive(3) = 1; arrive(5) = 1; say(1, 5) = 1; cry(1) = 2; pass(3) = 3; letter(10, 0) = 1; letter(10, 1) = 4; "
                + "letter(10, 2) = 10;",
                "letter(10, 3) = 8; letter(10, 4) = 20; letter(10, 5) = 1; letter(10, 6) = 2; letter(10, 7) = 11; "
                        + "letter(10, 8) = 11; letter(10, 9) = 12; letter(10, 10) = 14; letter(10, 11) = 15;");
    }

    private static void letterNone() {
        String s = "letter: NONE if what is 3, 4, or 7 to 11 and it has no such number";
        String none = "letter(0, 7) = -4; letter(0, 8) = -4; letter(0, 9) = -4; letter(0, 10) = -4; letter(0, 11) = -4;";
        Check.runWith("f0,0;", s + ": a SYN", "open(0, 1) = 1; letter(0, 0) = 0; letter(0, 2) = 0; letter(0, 3) = -4; "
                + "letter(0, 4) = -4; letter(0, 5) = 0; letter(0, 6) = 0;", none);
        Check.run(s + ": an RST", OPEN, "quit(0) = 4; letter(0, 3) = -4; letter(0, 4) = -4; letter(0, 5) = 0; "
                + "letter(0, 6) = 0;", none);
        Check.runWith("f255,0;", s + ": an RST with ACK has the ack number 0 and the window 0",
                "open(0, 1) = 1; arrive(0) = 0; letter(0, 1) = 12; letter(0, 3) = 0; letter(0, 4) = 0;", none);
        Check.runWith("p1;b2;f254,0;", s + ": the window 0 and the ack number 1", OPEN, Check.says(0, 1, 2),
                "arrive(0) = 1 x 2; lose(0) = 1; letter(0, 3) = 1; letter(0, 4) = 0;", none);
        Check.runWith("f254,0;", s + ": the urgent number 0", OPEN, "say(0, 1) = 1; cry(0) = 2; pass(3) = 3; letter(1, 7) = 0; "
                + "letter(0, 7) = -4;");
        Check.run(s + ": one range", OPEN, Check.says(0, 1, 5), "arrive(1) = 1; lose(0) = 1; letter(0, 6) = 1; "
                + "letter(0, 7) = -4; letter(0, 8) = 252; letter(0, 9) = 0; letter(0, 10) = -4; letter(0, 11) = -4;");
    }

    private static void bytesOfASegment() {
        for (int j : new int[] {MIN, -2, -1}) {
            Check.run("byteOf: BAD if j is negative", OPEN, "say(0, 1) = 1; byteOf(0, " + j + ") = -1; byteOf(1, " + j
                    + ") = -1;");
        }
        Check.run("byteOf: NONE if it has not so many bytes: none", "open(0, 1) = 1; byteOf(0, 0) = -4; byteOf(0, 7) = -4; "
                + "byteOf(0, 8) = -4; byteOf(0, 2147483647) = -4;");
        Check.run("byteOf: NONE if it has not so many bytes: one", OPEN, "say(0, 9) = 1; byteOf(0, 0) = 9; byteOf(0, 1) = -4; "
                + "byteOf(0, 2147483647) = -4;");
        Check.runWith("p8;", "byteOf: NONE if it has not so many bytes: 8", OPEN, Check.says(0, 1, 9),
                "byteOf(1, 0) = 2; byteOf(1, 7) = 9; byteOf(1, 8) = -4; byteOf(1, 2147483647) = -4;");
        Check.run("byteOf: FIN is no byte", OPEN, "say(0, 9) = 1; leave(0) = 5; byteOf(1, 0) = -4;");
        Check.run("byteOf: fewer bytes in a segment than in the one before it", OPEN, Check.says(0, 1, 5),
                "lose(0) = 1; lose(0) = 0; say(1, 7) = 1; byteOf(0, 0) = 7; byteOf(0, 1) = -4;");
    }

    private static void causeIndexes() {
        for (int i : new int[] {MIN, -2, -1}) {
            Check.run("cause: BAD if i is negative", "cause(" + i + ") = -1; open(0, 1) = 1; arrive(0) = 0; cause(" + i
                    + ") = -1;");
        }
        Check.run("cause: 0, the reason; no cause", "open(0, 1) = 1; arrive(0) = 0; cause(0) = 1; cause(1) = -4; "
                + "cause(2) = -4; cause(2147483647) = -4;");
        Check.run("cause: 1, its cause; and so on", OPEN, "say(0, 1) = 1; twice(0) = 2; arrive(0) = 1; arrive(0) = 0; "
                + "cause(0) = 6; cause(1) = 9; cause(2) = -4; cause(2147483647) = -4;");
    }

    private static void causeNone() {
        Check.run("cause: NONE if none has arrived", "cause(0) = -4; cause(1) = -4; cause(2147483647) = -4; open(0, 1) = 1; "
                + "cause(0) = -4; lose(0) = 0; cause(0) = -4;");
        Check.run("cause: NONE if the segment was accepted", "open(0, 1) = 1; twice(0) = 2; arrive(0) = 0; cause(0) = 1; "
                + "open(1, 0) = 2; arrive(0) = 1; cause(0) = -4; cause(1) = -4;");
        Check.run("cause: NONE if none has arrived since the configuration was set up", OPEN,
                "say(0, 1) = 1; twice(0) = 2; arrive(0) = 1; arrive(0) = 0; cause(0) = 6; cause(1) = 9; lay() = 4; "
                + "cause(0) = -4;",
                "cause(1) = -4;");
        String caused = OPEN + "say(0, 1) = 1; twice(0) = 2; twice(0) = 3; arrive(0) = 1; arrive(0) = 0; cause(0) = 6; "
                + "cause(1) = 9;";
        Check.run("cause: NONE if the segment was accepted, after one with a cause", caused,
                "say(0, 2) = 2; arrive(1) = 1; arrive(1) = 1; count(5) = 2; say(1, 3) = 1; arrive(2) = 1; cause(0) = -4; "
                + "cause(1) = -4;");
        Check.run("cause: NONE if the segment was accepted by the same endpoint, after one with a cause", caused,
                "lose(0) = 2; arrive(0) = 1; say(0, 2) = 1; arrive(1) = 1; cause(0) = -4; cause(1) = -4;");
        Check.run("cause: no cause after one with a cause", caused, "quit(1) = 4; arrive(0) = 0; cause(0) = 1; cause(1) = -4;");
        Check.run("cause: what arrives in calm() does not count", "open(0, 1) = 1; calm(0) = 2; cause(0) = -4; arrive(0) = 0; "
                + "open(1, 0) = 1; calm(1) = 0; cause(0) = 1;");
        Check.run("cause: it stays when no other segment arrives", "open(0, 1) = 1; arrive(0) = 0; cause(0) = 1; pass(9) = 9; "
                + "lose(0) = 1; twice(0) = 2; quit(0) = 2; open(0, 0) = 2; cause(0) = 1;");
    }

    private static void countWhat() {
        for (int what : new int[] {MIN, -1, 12, 13, MAX}) {
            Check.run("count: BAD if what is not 0 to 11", "count(" + what + ") = -1; open(0, 1) = 1; count(" + what
                    + ") = -1;");
        }
        Check.runWith("p3;b7;f11,13;l17;", "count: 0 to 4", "count(0) = 3; count(1) = 7; count(2) = 11; count(3) = 13; "
                + "count(4) = 17; count(11) = 17;");
        Check.run("count: all are 0 at first", "count(5) = 0; count(6) = 0; count(7) = 0; count(8) = 0; count(9) = 0; "
                + "count(10) = 0; count(11) = 0;");
        Check.run("count: 5, segments on the wire: 20", "open(0, 1) = 1;", States.fill(1),
                "count(5) = 20; count(7) = 1; count(8) = 0;");
        Check.run("count: 6, the time", "pass(100) = 100; count(6) = 100; drive(5, 60) = 0; count(6) = 160;");
        Check.run("count: 7, segments that have been sent since the configuration was set up", OPEN,
                "count(7) = 3; twice(0) = -1; say(0, 1) = 1; twice(0) = 2; lose(0) = 1; count(7) = 4; lay() = 4; "
                + "count(7) = 0;");
        Check.run("count: 11, characters of the text: 200", States.FULL_TEXT, "count(11) = 200; wipe() = 200; count(11) = 0;");
    }

    private static void countLosses() {
        Check.run("count: 8, those of them that were lost at once", "open(0, 1) = 1;", States.fill(1),
                "count(8) = 0; open(1, 1) = 20; count(8) = 1; count(7) = 2; quit(1) = 2; open(1, 1) = 20; count(8) = 2; "
                + "lay() = 4; count(8) = 0;");
        Check.run("count: 8, not by lose() and not by twice()", "open(0, 1) = 1;", States.fill(1),
                "twice(0) = -3; lose(0) = 19; count(8) = 0;");
    }

    private static void countRetransmissions() {
        Check.run("count: 9, also of a SYN", "open(0, 1) = 1; pass(5) = 5; count(9) = 0; pass(1) = 6; count(9) = 1; lay() = 4; "
                + "count(9) = 0;");
        Check.run("count: 9, bytes and FIN", OPEN, "say(0, 1) = 1; leave(1) = 5; pass(3) = 3; count(9) = 2;");
        Check.run("count: 9, not a SYN for the second time", "open(0, 1) = 1; open(1, 1) = 2; arrive(0) = 1; count(7) = 3; "
                + "count(9) = 0;");
        Check.runWith("p1;b2;", "count: 9, not a probe", OPEN, Check.says(0, 1, 3), "arrive(0) = 1 x 4; pass(3) = 3; "
                + "count(5) = 1; count(9) = 0;");
        Check.run("count: 9, also one that is lost at once", "open(0, 1) = 1;", States.fill(1),
                "pass(6) = 6; count(9) = 1; count(8) = 1; count(7) = 2;");
    }

    private static void countDropped() {
        Check.run("count: 10, segments that were dropped", "open(0, 1) = 1; twice(0) = 2; arrive(0) = 0; count(10) = 1; "
                + "arrive(0) = 0; count(10) = 2; lay() = 4; count(10) = 0;");
        Check.run("count: 10, by drive()", "open(0, 1) = 1;", States.fill(1), "count(10) = 0; drive(3, 1) = 20; "
                + "count(10) = 1;");
        Check.run("count: 10 (calls of calm() do not count)", "open(0, 1) = 1; calm(0) = 2; calm(5) = 1; count(10) = 0; "
                + "arrive(0) = 0; calm(0) = 1; count(10) = 1;");
        Check.run("count: 10, not those that are accepted or lost", OPEN, "say(0, 1) = 1; lose(0) = 0; count(10) = 0;");
    }
}
