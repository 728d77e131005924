/** "Arriving", the states from SYN_RECEIVED to TIME_WAIT: what the document says of all of them holds in each. */
public final class EveryStateTest {
    private static final int SYN_RECEIVED = 3, ESTABLISHED = 4, FIN_WAIT_2 = 6, TIME_WAIT = 10;
    /** The position that endpoint 0 expects in its states, and the number of what it has sent. */
    private static final int[] EXPECTED = {0, 0, 0, 1, 1, 1, 1, 2, 2, 2, 2};
    private static final int[] SENT_NUMBER = {0, 0, 0, 251, 251, 252, 252, 251, 252, 252, 252};

    public static void main(String[] args) {
        for (int state = SYN_RECEIVED; state <= TIME_WAIT; state++) {
            doesNotFit(state);
            wrongAck(state);
            oldBytes(state);
            acknowledgesLess(state);
            emptySegment(state);
        }
        for (int state : new int[] {ESTABLISHED, 7}) {
            transmits(state);
        }
        Check.end("EveryStateTest");
    }

    private static StreamEnds played(String title, String... rows) {
        StreamEnds x = new StreamEnds();
        Check.play(title, x, rows);
        return x;
    }

    /** Endpoint 1 connects anew: the number of its SYN is before what endpoint 0 expects. */
    private static void doesNotFit(int state) {
        String title = "If it does not fit, it is dropped with reason 6; then, if it has no RST, a pure ACK is sent: " + state;
        StreamEnds x = played(title, States.RUNS[state]);
        int size = x.count(5);
        x.quit(1);
        if (x.count(5) > size) {
            x.lose(size);
        }
        Check.same(title + ": open()", x.open(1, 1), size + 1);
        x.pass(1);
        Check.play(title, x, "arrive(" + size + ") = 0; cause(0) = 6; cause(1) = 9; count(5) = " + (size + 1)
                + "; end(0, 0) = " + state + "; end(0, 5) = " + EXPECTED[state] + "; count(10) = 1;");
        pureAck(title, x, size, state);
        Check.same("in state TIME_WAIT the wait timer becomes twice the lifetime again: " + state, x.end(0, 12),
                state == TIME_WAIT ? 10 : 0);
    }

    private static void pureAck(String title, StreamEnds x, int i, int state) {
        Check.play(title, x, "letter(" + i + ", 0) = 0; letter(" + i + ", 1) = 4; letter(" + i + ", 5) = 0; letter(" + i
                + ", 2) = " + SENT_NUMBER[state] + "; letter(" + i + ", 3) = " + (100 + EXPECTED[state]) + "; letter(" + i
                + ", 4) = " + (13 - EXPECTED[state]) + ";");
    }

    private static void wrongAck(int state) {
        String title = state == SYN_RECEIVED
                ? "In state SYN_RECEIVED, if q is not from 1 to sent, it is dropped with reason 5, and an RST in answer is sent"
                : "Otherwise, if q is greater than sent, it is dropped with reason 5, and a pure ACK is sent: " + state;
        StreamEnds x = played(title, States.OLD_ACK, States.behindOne(state));
        int size = x.count(5);
        int acked = x.end(0, 1);
        int edge = x.end(0, 3);
        Check.play(title, x, "end(0, 0) = " + state + "; arrive(0) = 0; cause(0) = 5; cause(1) = -4; end(0, 0) = " + state
                + "; count(5) = " + size + "; end(0, 1) = " + acked + "; end(0, 3) = " + edge + ";");
        if (state == SYN_RECEIVED) {
            Check.play(title, x, "letter(" + (size - 1) + ", 1) = 8; letter(" + (size - 1) + ", 2) = 253; letter("
                    + (size - 1) + ", 0) = 0;");
        } else {
            pureAck(title, x, size - 1, state);
        }
    }

    /** Bytes 2 to 5 of an old connection, which fit in every state. */
    private static void oldBytes(int state) {
        StreamEnds x = played("old bytes", States.OLD_BYTES, States.behindOne(state));
        int size = x.count(5);
        int waits = x.end(0, 12);
        Check.play("It is accepted: " + state, x, "end(0, 0) = " + state + "; arrive(0) = 1; cause(0) = -4; end(0, 12) = " + waits
                + "; end(0, 5) = " + EXPECTED[state] + ";");
        Check.same("(SYN_RECEIVED becomes ESTABLISHED): " + state, x.end(0, 0), state == SYN_RECEIVED ? ESTABLISHED : state);
        Check.play("If it has an urgent number, urged becomes the position that this means, in state " + state, x,
                "end(0, 15) = 5;");
        boolean holds = state <= FIN_WAIT_2;
        Check.play("In the states ESTABLISHED, FIN_WAIT_1 and FIN_WAIT_2 its bytes become held, but not in others: " + state, x,
                "span(0, -1, 0) = " + (holds ? 1 : 0) + "; span(0, 0, 0) = " + (holds ? 2 : -4) + "; span(0, 0, 1) = "
                + (holds ? 6 : -4) + ";");
        String answer = "If its length is not 0, a pure ACK is sent, in state " + state;
        Check.same(answer, x.count(5), size);
        pureAck(answer, x, size - 1, state);
        Check.same(answer + ": its ranges", x.letter(size - 1, 6), holds ? 1 : 0);
    }

    /** The old ack number is that of position 1, and FIN has been acknowledged in some states. */
    private static void acknowledgesLess(int state) {
        StreamEnds x = played("an old ack number", States.OLD_BYTES, States.behindOne(state));
        int acked = Math.max(1, x.end(0, 1));
        Check.play("if q is greater than acked, acked becomes q, but not otherwise: " + state, x, "letter(0, 3) = 251; "
                + "arrive(0) = 1; end(0, 1) = " + acked + "; end(0, 3) = 13;");
    }

    private static void emptySegment(int state) {
        String title = "If its length is 0, no pure ACK is sent: " + state;
        StreamEnds x = played(title, States.OLD_EMPTY, States.behindOne(state));
        int size = x.count(5);
        Check.play(title, x, "end(0, 0) = " + state + "; arrive(0) = 1; cause(0) = -4; end(0, 12) = "
                + (state == TIME_WAIT ? 10 : 0) + "; count(5) = " + (size - 1) + ";");
    }

    private static void transmits(int state) {
        StreamEnds x = played("Then the endpoint transmits", States.RUNS[state], "say(0, 1) = 1; say(0, 2) = 2;");
        int size = x.count(5);
        Check.play("Then the endpoint transmits, in state " + state, x, "end(0, 2) = 2; arrive(" + (size - 1) + ") = 1; arrive("
                + (size - 1) + ") = 1; end(0, 2) = 3; letter(" + (size - 1) + ", 0) = 0; byteOf(" + (size - 1) + ", 0) = 2;");
    }
}
