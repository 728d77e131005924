import java.util.regex.Pattern;

/** Runs of calls that many tests begin with: endpoint 0 in each of its states, and what is full. */
final class States {
    /** A handshake: both endpoints are ESTABLISHED, and the wire is empty. */
    static final String OPEN = "open(1, 0) = 0; open(0, 1) = 1; arrive(0) = 1 x 3;";

    /** OPEN_AGAIN does the same for endpoints that are CLOSED when one old segment is on the wire. */
    static final String OPEN_AGAIN = "open(1, 0) = 1; open(0, 1) = 2; arrive(1) = 1 x 3;";

    /** The run with the index s brings endpoint 0 into state s. */
    static final String[] RUNS = {
        "",
        "open(0, 0) = 0;",
        "open(0, 1) = 1;",
        "open(0, 0) = 0; open(1, 1) = 1; arrive(0) = 1;",
        OPEN,
        OPEN + "leave(0) = 5;",
        OPEN + "leave(0) = 5; arrive(0) = 1 x 2;",
        OPEN + "leave(1) = 5; arrive(0) = 1;",
        OPEN + "leave(0) = 5; leave(1) = 5; arrive(1) = 1;",
        OPEN + "leave(1) = 5; arrive(0) = 1; leave(0) = 9;",
        OPEN + "leave(0) = 5; arrive(0) = 1; leave(1) = 9; arrive(0) = 1 x 2;"};

    static final int SYN_SENT = 2, SYN_RECEIVED = 3, ESTABLISHED = 4, CLOSE_WAIT = 7;

    /** Endpoint 0 has 32 pending bytes in the states in which it may write. */
    static final String[] FULL_PENDING = {
        RUNS[SYN_SENT] + Check.says(0, 1, 32),
        RUNS[SYN_RECEIVED] + Check.says(0, 1, 32),
        RUNS[ESTABLISHED] + Check.says(0, 1, 32),
        RUNS[CLOSE_WAIT] + Check.says(0, 1, 32)};

    /** Endpoint 0 is releasing, but has not sent its FIN. */
    static final String[] RELEASING = {
        RUNS[SYN_RECEIVED] + "leave(0) = 3;",
        RUNS[ESTABLISHED] + Check.says(0, 1, 20) + "leave(0) = 4;",
        RUNS[CLOSE_WAIT] + Check.says(0, 1, 20) + "leave(0) = 7;"};

    /** Endpoint 0 is CLOSED after it has been used. */
    static final String[] USED = {
        RUNS[SYN_SENT] + "leave(0) = 0;",
        OPEN + "say(0, 1) = 1; say(1, 2) = 1; arrive(0) = 1 x 2; pass(2) = 2; quit(0) = 4;",
        OPEN + "say(1, 2) = 1; arrive(0) = 1; quit(1) = 4; arrive(1) = 1;",
        RUNS[10] + "pass(10) = 10;"};

    /** The wire is full; endpoint 0 is ESTABLISHED, or both endpoints are CLOSED. */
    static final String[] FULL_WIRE = {
        OPEN + "say(0, 1) = 1; cry(0) = 2;" + fill(1),
        "open(0, 1) = 1; open(1, 1) = 2; quit(0) = 2; quit(1) = 2;" + fill(2)};

    /** Endpoint 1 holds a range, of which endpoint 0 knows; the last segment was dropped. */
    static final String HOLDING = OPEN + Check.says(0, 1, 13) + "arrive(2) = 1 x 2; lose(1) = 1; pass(3) = 3;"
            + "arrive(1) = 1; arrive(0) = 0; take(1) = 1;";

    /** Endpoint 0 knows that all it has sent and that is not acknowledged, 2 to 4, is held; set up by p1;b20;. */
    static final String ALL_MARKED = OPEN + Check.says(0, 1, 3) + "arrive(0) = 1; lose(1) = 2; lose(0) = 1;"
            + "quit(0) = 4; quit(1) = 4; lose(2) = 2; lose(1) = 1;" + OPEN_AGAIN + Check.says(0, 1, 3)
            + "arrive(2) = 1 x 2; arrive(3) = 1; arrive(0) = 1; end(0, 1) = 2; end(0, 16) = -4; say(0, 4) = 3;"
            + "arrive(2) = 1 x 2; known(0, 2) = 1; known(0, 3) = 1; known(0, 4) = 1; end(0, 2) = 5; end(0, 16) = 4;"
            + "end(0, 11) = 3; count(5) = 2;";

    /**
     * Both endpoints are in FIN_WAIT_1 with the same values, none of which, but for the wait timer, is that at the
     * start: each has noted the FIN of its peer, holds a range, and knows that its peer holds one; set up by p1;b20;.
     */
    static final String RICH = OPEN + "say(0, 1) = 1; say(1, 2) = 1; pass(2) = 2; arrive(0) = 1 x 4; take(0) = 2; take(1) = 1;"
            + "say(0, 3) = 1; say(1, 4) = 1; cry(0) = 3; cry(1) = 3; pass(4) = 6; lose(0) = 3; lose(0) = 2; arrive(0) = 1 x 2;"
            + "lose(0) = 1; lose(0) = 0; say(0, 5) = 2; say(0, 6) = 3; say(0, 7) = 4; say(1, 8) = 2; say(1, 9) = 3; "
            + "say(1, 10) = 4; arrive(1) = 1; arrive(3) = 1; arrive(4) = 1 x 2; leave(0) = 5; leave(1) = 5; "
            + "arrive(4) = 1 x 2; count(5) = 6;";

    /**
     * 224 bytes have come to endpoint 1, and all of them are taken, by 465 calls: it expects position
     * 225 and has room up to 256. On the wire is what it tells of that.
     */
    static final String FAR = laid("p8;b32;", 8) + "open(1, 0) = 0; open(0, 1) = 1;" + batch().repeat(7);

    /**
     * An old segment of endpoint 1 is on the wire: 4 bytes from position 2 on, with the ack number of position 1 and
     * the urgent number of position 5. Both endpoints are CLOSED.
     */
    static final String OLD_BYTES = OPEN + "say(1, 1) = 1; say(1, 2) = 2; say(1, 3) = 3; say(1, 4) = 4; cry(1) = 5; "
            + "say(1, 5) = 5; letter(1, 2) = 102; letter(1, 3) = 251; letter(1, 5) = 4; letter(1, 7) = 105; lose(0) = 1; "
            + "quit(0) = 4; quit(1) = 4; lose(2) = 2; lose(1) = 1;";

    /** The same with an old pure ACK of endpoint 1: the number of position 2, and the ack number of position 3. */
    static final String OLD_ACK = OPEN + "say(1, 9) = 1; lose(0) = 0; say(0, 1) = 1; arrive(0) = 1 x 2; say(0, 2) = 1; "
            + "arrive(0) = 1; count(5) = 1; letter(0, 1) = 4; letter(0, 2) = 102; letter(0, 3) = 253; letter(0, 5) = 0; "
            + "quit(0) = 4; quit(1) = 4; lose(2) = 2; lose(1) = 1;";

    /** The same with an old pure ACK of endpoint 1: the number of position 2, and the ack number of position 1. */
    static final String OLD_EMPTY = "open(1, 0) = 0; open(0, 1) = 1; twice(0) = 2; arrive(0) = 1; arrive(1) = 1 x 2; "
            + "say(1, 9) = 1; lose(1) = 1; arrive(0) = 0; letter(0, 1) = 4; letter(0, 2) = 102; letter(0, 3) = 251; "
            + "letter(0, 5) = 0; quit(0) = 4; quit(1) = 4; lose(2) = 2; lose(1) = 1;";

    /** The text has 200 characters and a fault. */
    static final String FULL_TEXT = "write(112) = 1;" + fullText();

    private States() {
    }

    private static final Pattern WIRE_NUMBER = Pattern.compile("(?<=arrive\\()\\d+|(?<=open\\(., .\\) = )\\d+");

    /** The run with the index s, when one old segment is on the wire: it is before all segments of the run. */
    static String behindOne(int s) {
        return WIRE_NUMBER.matcher(RUNS[s]).replaceAll(number -> "" + (Integer.parseInt(number.group()) + 1));
    }

    private static String batch() {
        StringBuilder calls = new StringBuilder(Check.says(0, 1, 32) + "drive(0, 60) = 0; ");
        for (int k = 1; k <= 32; k++) {
            calls.append("take(1) = ").append(k).append("; ");
        }
        return calls.toString();
    }

    /** Writes a text and sets it up. */
    static String laid(String text, int segmentSize) {
        StringBuilder calls = new StringBuilder();
        for (int k = 0; k < text.length(); k++) {
            calls.append("write(").append((int) text.charAt(k)).append(") = ").append(k + 1).append("; ");
        }
        return calls + "lay() = " + segmentSize + "; ";
    }

    /** Duplicates the first segment until the wire has 20. */
    static String fill(int size) {
        return fill(size, 20);
    }

    /** Duplicates the first segment of a wire of this size until the wire has so many. */
    static String fill(int size, int most) {
        StringBuilder calls = new StringBuilder();
        for (int k = size + 1; k <= most; k++) {
            calls.append("twice(0) = ").append(k).append("; ");
        }
        return calls.toString();
    }

    private static String fullText() {
        StringBuilder calls = new StringBuilder();
        for (int k = 2; k <= 200; k++) {
            calls.append("write(59) = ").append(k).append("; ");
        }
        return calls.toString();
    }
}
