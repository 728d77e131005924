/** Promises 12 to 17: the wire, with the arrivals in every state, the ticks and the timers. */
public final class WireTest {
    private static final String OPEN = "open(1, 0) = 0; open(0, 1) = 1; arrive(0) = 1 x 3;";

    public static void main(String[] args) {
        arriveClosed();
        arriveListening();
        arriveConnecting();
        arriveNotFitting();
        arriveWithWrongAck();
        arriveWithoutAck();
        arriveWithNegativeAck();
        arriveBytes();
        arriveOldBytes();
        arriveFin();
        arriveReset();
        urgent();
        acknowledge();
        roundTrips();
        lose();
        twice();
        fullWire();
        pass();
        retransmit();
        stalled();
        timeWait();
        drive();
        driveEvents();
        calm();
        calmIsPlayed();
        Check.end("WireTest");
    }

    private static void arriveClosed() {
        Check.run("arrive: there is no such segment", "arrive(0) = -1; arrive(-1) = -1; open(0, 1) = 1; arrive(1) = -1;",
                "arrive(-1) = -1; arrive(20) = -1; count(5) = 1; cause(0) = -4; count(10) = 0;");
        Check.run("arrive: CLOSED, without ACK", "open(1, 1) = 1; arrive(0) = 0; cause(0) = 1; cause(1) = -4;",
                "count(5) = 1; letter(0, 0) = 0; letter(0, 1) = 12; letter(0, 2) = 0; letter(0, 3) = 101;",
                "letter(0, 4) = 0; letter(0, 5) = 0; letter(0, 6) = 0; letter(0, 7) = -4; letter(0, 8) = -4;",
                "count(10) = 1; arrive(0) = 1; end(1, 0) = 0; end(1, 11) = 0; end(1, 2) = 1; count(10) = 1;");
        Check.run("arrive: CLOSED, with ACK", OPEN, "say(0, 1) = 1; quit(1) = 4; lose(1) = 1; arrive(0) = 0; cause(0) = 1;",
                "letter(0, 0) = 1; letter(0, 1) = 8; letter(0, 2) = 101; letter(0, 3) = -4; arrive(0) = 1; end(0, 0) = 0;");
        Check.run("arrive: CLOSED, an RST is not answered", OPEN, "quit(0) = 4; quit(1) = 4; count(5) = 2;",
                "arrive(0) = 0; cause(0) = 1; count(5) = 1; arrive(0) = 0; cause(0) = 1; count(5) = 0; count(10) = 2;");
    }

    private static void arriveListening() {
        Check.run("arrive: LISTEN, a SYN", "open(1, 0) = 0; open(0, 1) = 1; arrive(0) = 1; end(1, 0) = 3; end(1, 5) = 1;",
                "end(1, 2) = 1; end(1, 16) = 0; end(1, 11) = 6; letter(0, 0) = 1; letter(0, 1) = 5; letter(0, 2) = 100;",
                "letter(0, 3) = 251; letter(0, 4) = 12; letter(0, 5) = 0; end(1, 3) = 1;");
        Check.run("arrive: LISTEN, an RST", OPEN, "quit(0) = 4; quit(1) = 4; open(1, 0) = 2; arrive(0) = 0; cause(0) = 2;",
                "cause(1) = -4; count(5) = 1; end(1, 0) = 1;");
        Check.run("arrive: LISTEN, an ACK", "open(1, 0) = 0; open(0, 1) = 1; arrive(0) = 1; leave(0) = 0; open(0, 0) = 1;",
                "arrive(0) = 0; cause(0) = 3; count(5) = 1; letter(0, 0) = 0; letter(0, 1) = 8; letter(0, 2) = 251;",
                "letter(0, 3) = -4; end(0, 0) = 1; arrive(0) = 1; end(1, 0) = 0; count(10) = 1;");
    }

    private static void arriveConnecting() {
        Check.run("arrive: SYN_SENT, SYN and ACK", "open(1, 0) = 0; open(0, 1) = 1; arrive(0) = 1; pass(2) = 2; arrive(0) = 1;",
                "end(0, 0) = 4; end(0, 1) = 1; end(0, 3) = 13; end(0, 5) = 1; end(0, 11) = 0; end(0, 8) = 6; sample(0, 0) = 2;",
                "count(5) = 1; letter(0, 0) = 0; letter(0, 1) = 4; letter(0, 2) = 251; letter(0, 3) = 101; letter(0, 4) = 12;");
        Check.run("arrive: SYN_SENT, a SYN alone", "open(0, 1) = 1; open(1, 1) = 2; pass(2) = 2; arrive(0) = 1; end(1, 0) = 3;",
                "end(1, 5) = 1; end(1, 1) = 0; end(1, 2) = 1; letter(1, 0) = 1; letter(1, 1) = 5; letter(1, 2) = 100;",
                "letter(1, 3) = 251; count(7) = 3; count(9) = 0; end(1, 16) = 0; end(1, 11) = 4; arrive(0) = 1; end(0, 0) = 3;",
                "arrive(0) = 0; cause(0) = 6; cause(1) = 9; arrive(0) = 0; arrive(0) = 1; arrive(0) = 1; end(0, 0) = 4;",
                "end(1, 0) = 4; sample(1, 0) = 2; sample(0, 0) = 2; count(5) = 0;");
        Check.run("arrive: SYN_SENT, the ack number is wrong", OPEN, "say(0, 1) = 1; arrive(0) = 1; quit(0) = 4; lose(1) = 1;",
                "open(0, 1) = 2; arrive(0) = 0; cause(0) = 5; cause(1) = -4; count(5) = 2; letter(1, 0) = 0;",
                "letter(1, 1) = 8; letter(1, 2) = 252; end(0, 0) = 2; end(0, 1) = 0; end(0, 11) = 6;");
        Check.run("arrive: SYN_SENT, an RST with ACK", "open(0, 1) = 1; arrive(0) = 0; arrive(0) = 1; end(0, 0) = 0;",
                "cause(0) = -4; count(5) = 0;");
        Check.run("arrive: SYN_SENT, an RST without ACK", OPEN, "quit(0) = 4; quit(1) = 4; open(1, 1) = 3; arrive(0) = 0;",
                "cause(0) = 2; cause(1) = -4; count(5) = 2; end(1, 0) = 2;");
        Check.run("arrive: SYN_SENT, an ACK without SYN", OPEN, "say(1, 1) = 1; quit(0) = 4; lose(1) = 1; open(0, 1) = 2;",
                "arrive(0) = 0; cause(0) = 4; cause(1) = -4; count(5) = 1; end(0, 0) = 2; end(0, 5) = 0;");
        Check.run("arrive: SYN_SENT, bytes that were written before", "open(0, 1) = 1; open(1, 0) = 1;", Check.says(0, 1, 6),
                "leave(1) = 0; open(1, 0) = 1; arrive(0) = 1; arrive(0) = 1; count(5) = 2; letter(0, 5) = 0; letter(1, 5) = 4;",
                "letter(1, 2) = 251; end(0, 2) = 5; end(0, 16) = 4; end(0, 11) = 3;");
    }

    private static void arriveNotFitting() {
        Check.run("arrive: before the window", OPEN, "say(0, 1) = 1; twice(0) = 2; arrive(0) = 1; arrive(0) = 0; cause(0) = 6;",
                "cause(1) = 9; cause(2) = -4; count(5) = 2; letter(1, 1) = 4; letter(1, 3) = 252; count(10) = 1;",
                "arrive(0) = 1; cause(0) = -4; cause(1) = -4;");
        Check.runWith("p4;b8;", "arrive: no window, a probe", OPEN, Check.says(0, 1, 12), "arrive(0) = 1 x 4; pass(3) = 3;",
                "arrive(0) = 1 x 2; end(1, 5) = 9; end(1, 7) = 9; end(0, 1) = 9; end(0, 3) = 9; pass(3) = 6; count(5) = 1;",
                "letter(0, 1) = 4; letter(0, 2) = 8; letter(0, 5) = 0; arrive(0) = 0; cause(0) = 6; cause(1) = 7;",
                "cause(2) = -4; count(5) = 1; letter(0, 0) = 1; letter(0, 1) = 4; letter(0, 4) = 0; arrive(0) = 1;");
        Check.runWith("p4;b8;", "arrive: no window, but a pure ACK at expected fits", OPEN, "say(1, 7) = 1;", Check.says(0, 1, 12),
                "arrive(1) = 1; arrive(1) = 1; lose(0) = 2; arrive(0) = 1; arrive(0) = 1; pass(3) = 3; count(5) = 2;",
                "arrive(0) = 1; end(1, 5) = 9; end(1, 7) = 9; arrive(0) = 1; arrive(1) = 1; count(5) = 1; end(0, 5) = 2;",
                "letter(0, 5) = 0; end(1, 1) = 2; end(1, 11) = 0;");
        // The segment of an earlier connection lies behind the window of the new one.
        Check.runWith("p2;b4;", "arrive: beyond the window", OPEN, "say(0, 1) = 1; arrive(0) = 1; take(1) = 1; arrive(0) = 1;",
                "say(0, 2) = 1; arrive(0) = 1; take(1) = 2; arrive(0) = 1; say(0, 3) = 1; arrive(0) = 1; take(1) = 3;",
                "arrive(0) = 1; say(0, 4) = 1; arrive(0) = 1; take(1) = 4; arrive(0) = 1; count(5) = 0; say(0, 5) = 1;",
                "quit(0) = 4; quit(1) = 4; lose(1) = 2; lose(1) = 1; open(1, 0) = 1; open(0, 1) = 2; arrive(1) = 1; arrive(1) = 1;",
                "arrive(1) = 1; end(1, 0) = 4; end(1, 7) = 5; letter(0, 2) = 5; arrive(0) = 0; cause(0) = 6; cause(1) = 8;",
                "count(5) = 1; letter(0, 1) = 4; letter(0, 3) = 1;");
        Check.runWith("p2;b4;", "arrive: partly before the window", OPEN, "say(0, 1) = 1; say(0, 2) = 2; count(5) = 1;",
                "arrive(0) = 1; lose(0) = 0; pass(3) = 3; letter(0, 5) = 1; arrive(0) = 0; cause(1) = 9; lose(0) = 0;",
                "say(0, 3) = 3; letter(0, 5) = 2; letter(0, 2) = 2; lose(0) = 0; pass(6) = 9; letter(0, 2) = 1;",
                "letter(0, 5) = 2; byteOf(0, 0) = 1; byteOf(0, 1) = 2; arrive(0) = 1; end(1, 5) = 3; take(1) = 1; take(1) = 2;");
    }

    private static void arriveWithWrongAck() {
        Check.run("arrive: SYN_RECEIVED, the ack number is wrong", OPEN, "say(1, 1) = 1; say(1, 2) = 2; arrive(0) = 1;",
                "quit(0) = 4; quit(1) = 4; lose(2) = 2; lose(1) = 1; open(1, 0) = 1; open(0, 1) = 2; arrive(1) = 1;",
                "end(1, 0) = 3; letter(0, 2) = 251; letter(0, 3) = 102; arrive(0) = 0; cause(0) = 5; cause(1) = -4;",
                "letter(1, 0) = 1; letter(1, 1) = 8; letter(1, 2) = 102; end(1, 0) = 3; end(1, 1) = 0;");
        Check.run("arrive: ESTABLISHED, more is acknowledged than was sent", OPEN, "say(1, 1) = 1; say(1, 2) = 2;",
                "arrive(0) = 1; quit(0) = 4; quit(1) = 4; lose(2) = 2; lose(1) = 1; open(1, 0) = 1; open(0, 1) = 2;",
                "arrive(1) = 1 x 3; end(1, 0) = 4; letter(0, 3) = 102; end(1, 2) = 1; arrive(0) = 0; cause(0) = 5;",
                "cause(1) = -4; count(5) = 1; letter(0, 0) = 1; letter(0, 1) = 4; letter(0, 2) = 101; letter(0, 3) = 251;");
    }

    /**
     * A SYN without ACK can only fit where its number means position 256: endpoint 0 connects again
     * when endpoint 1 has consumed 224 bytes. Reference tells which drive() brings every byte over.
     */
    private static void arriveWithoutAck() {
        StreamEnds x = new StreamEnds();
        Reference y = new Reference();
        bringOver(x, y, 224);
        Check.same("calls so far", calls <= 500 ? 1 : 0, 1);
        int size = y.count(5);
        both(x, y, "quit", 0);
        both(x, y, "lose", size);
        both(x, y, "open", 0, 1);
        Check.play("arrive: without ACK", x, "end(1, 0) = 4; end(1, 7) = 257; end(1, 5) = 225; arrive(" + size + ") = 0;",
                "cause(0) = 10; cause(1) = -4; count(5) = " + size + "; end(1, 0) = 4;");
    }

    /** An old ack number from so far ahead that it is interpreted below 1 in SYN_RECEIVED. */
    private static void arriveWithNegativeAck() {
        StreamEnds x = new StreamEnds();
        Reference y = new Reference();
        bringOver(x, y, 160);
        for (int k = 0; k < 60 && y.count(5) > 0; k++) {
            both(x, y, "arrive", 0);
        }
        both(x, y, "say", 0, 1);
        both(x, y, "arrive", 0);
        Check.play("arrive: SYN_RECEIVED, the ack number is below 1", x, "letter(0, 3) = 162; quit(0) = 4; quit(1) = 4;",
                "lose(2) = 2; lose(1) = 1; open(0, 0) = 1; open(1, 1) = 2; arrive(1) = 1; end(0, 0) = 3; arrive(0) = 0;",
                "cause(0) = 5; cause(1) = -4; count(5) = 2; letter(1, 1) = 8; letter(1, 2) = 162; letter(1, 0) = 0;");
    }

    /** Endpoint 0 says so many bytes, and endpoint 1 takes all of them. */
    private static void bringOver(StreamEnds x, Reference y, int bytes) {
        calls = 0;
        for (char c : "p8;b32;".toCharArray()) {
            both(x, y, "write", c);
        }
        both(x, y, "lay");
        both(x, y, "open", 1, 0);
        both(x, y, "open", 0, 1);
        for (int k = 0; k < 3; k++) {
            both(x, y, "arrive", 0);
        }
        for (int said = 0; said < bytes; said += 32) {
            for (int k = 0; k < 32; k++) {
                both(x, y, "say", 0, said + k);
            }
            for (int k = 0; k < 6 && y.end(0, 1) != said + 33; k++) {
                both(x, y, "drive", bestDrive(y), 60);
            }
            for (int k = 0; k < 32; k++) {
                both(x, y, "take", 1);
            }
        }
    }

    private static int calls = 0;

    private static void both(StreamEnds x, Reference y, String name, int... args) {
        calls++;
        Check.same("long run, " + name, Check.call(x, name, args), Check.call(y, name, args));
    }

    private static int bestDrive(Reference y) {
        int best = 0;
        int most = -1;
        for (int z = 0; z < 300; z++) {
            Reference copy = y.copy();
            copy.drive(z, 60);
            if (copy.end(0, 1) > most) {
                most = copy.end(0, 1);
                best = z;
            }
        }
        return best;
    }

    private static void arriveBytes() {
        Check.run("arrive: bytes in and out of order", OPEN, Check.says(0, 1, 12), "count(5) = 3; arrive(2) = 1; end(1, 5) = 1;",
                "span(1, -1, 0) = 1; span(1, 0, 0) = 6; span(1, 0, 1) = 10; take(1) = -4; arrive(0) = 1; end(1, 5) = 2;",
                "letter(1, 6) = 1; letter(1, 8) = 0; letter(1, 9) = 4; letter(2, 3) = 252; letter(2, 6) = 1; arrive(0) = 1;",
                "end(1, 5) = 10; span(1, -1, 0) = 0; letter(2, 6) = 0; letter(2, 3) = 4; letter(2, 4) = 3;",
                "take(1) = 1; take(1) = 2; take(1) = 3; take(1) = 4; take(1) = 5; take(1) = 6; take(1) = 7; take(1) = 8;");
        Check.run("arrive: a pure ACK is not answered", OPEN, "say(0, 1) = 1; arrive(0) = 1; count(5) = 1; arrive(0) = 1;",
                "count(5) = 0; count(7) = 5;");
        Check.runWith("p1;b20;f0,0;", "arrive: two ranges are told", OPEN, Check.says(0, 1, 8), "count(5) = 8; arrive(1) = 1;",
                "arrive(2) = 1; arrive(3) = 1; arrive(4) = 1; span(1, -1, 0) = 4; span(1, 3, 1) = 9; count(5) = 8;",
                "letter(7, 6) = 2; letter(7, 8) = 2; letter(7, 9) = 3; letter(7, 10) = 4; letter(7, 11) = 5;",
                "arrive(7) = 1; known(0, 2) = 1; known(0, 3) = 0; known(0, 4) = 1; known(0, 6) = 0; known(0, 1) = 0;",
                "letter(4, 6) = 1; letter(4, 10) = -4; letter(4, 9) = 3;");
    }

    /** Bytes of a connection before, which are held in the new one at their positions. */
    private static void arriveOldBytes() {
        String old = "quit(0) = 4; quit(1) = 4; lose(3) = 3; lose(2) = 2; lose(0) = 1; open(1, 0) = 1; open(0, 1) = 2;"
                + "arrive(1) = 1 x 3; arrive(0) = 1; span(1, 0, 0) = 2; span(1, 0, 1) = 6; count(5) = 1;";
        Check.run("arrive: bytes that are held already stay", OPEN, Check.says(0, 1, 5), old, "say(0, 11) = 1; say(0, 12) = 2;",
                "say(0, 13) = 3; say(0, 14) = 4; say(0, 15) = 5; count(5) = 3; byteOf(2, 0) = 12; arrive(2) = 1; arrive(1) = 1;",
                "end(1, 5) = 6; take(1) = 11; take(1) = 2; take(1) = 3; take(1) = 4; take(1) = 5; take(1) = -4;");
        Check.run("arrive: held bytes at the position of FIN", OPEN, Check.says(0, 1, 5), old, "say(0, 11) = 1; leave(0) = 5;",
                "letter(2, 2) = 252; arrive(2) = 1; end(1, 17) = 2; arrive(1) = 1; end(1, 5) = 6; end(1, 0) = 4; calm(4) = 1;",
                "take(1) = 11; take(1) = -4; end(1, 6) = 2;");
        Check.run("arrive: FIN is noted before the bytes come", OPEN, Check.says(0, 1, 4), "leave(0) = 5; count(5) = 2;",
                "arrive(1) = 1; end(1, 17) = 5; lose(0) = 1; arrive(0) = 1; pass(3) = 3; arrive(0) = 1; end(1, 17) = 5;",
                "end(1, 0) = 7; end(1, 5) = 6; take(1) = 1; take(1) = 2;");
    }

    private static void arriveFin() {
        Check.run("arrive: FIN before the bytes", OPEN, Check.says(0, 1, 3), "leave(0) = 5; arrive(1) = 1; end(1, 17) = 4;",
                "end(1, 0) = 4; end(1, 5) = 1; span(1, 0, 1) = 4; arrive(0) = 1; end(1, 5) = 5; end(1, 0) = 7;",
                "letter(1, 3) = 255; arrive(0) = 1; end(0, 0) = 5; arrive(0) = 1; end(0, 0) = 6; end(0, 11) = 0;",
                "end(0, 1) = 5; end(0, 2) = 5;");
        Check.run("arrive: FIN at both ends, one after the other", OPEN, "leave(0) = 5; arrive(0) = 1; leave(1) = 9;",
                "count(5) = 2; arrive(1) = 1; end(0, 0) = 10; end(0, 12) = 10; arrive(1) = 1; end(1, 0) = 0; count(5) = 1;",
                "end(1, 11) = 0; end(1, 1) = 2; end(1, 2) = 2;");
        Check.run("arrive: the FIN alone makes CLOSING, the ACK TIME_WAIT", OPEN, "leave(0) = 5; leave(1) = 5;",
                "arrive(1) = 1; end(0, 0) = 8; end(0, 17) = 1; arrive(0) = 1; end(1, 0) = 8; arrive(0) = 1; end(1, 0) = 10;",
                "end(1, 12) = 10; arrive(0) = 1; end(0, 0) = 10; count(5) = 0; calm(0) = 10;");
        Check.run("arrive: bytes in FIN_WAIT_1, then the whole release", OPEN, "leave(1) = 5; arrive(0) = 1; end(0, 0) = 7;",
                "say(0, 1) = 1; count(5) = 2; arrive(1) = 1; end(1, 0) = 6; take(1) = 1; arrive(0) = 0; cause(1) = 9;",
                "count(5) = 2; arrive(0) = 1; end(0, 1) = 2; leave(0) = 9; arrive(1) = 1; end(1, 0) = 10; count(5) = 2;",
                "arrive(1) = 1; end(0, 0) = 0; end(0, 1) = 3; arrive(0) = 0; cause(0) = 1;");
    }

    private static void arriveReset() {
        Check.run("arrive: an RST that fits", OPEN, "quit(1) = 4; say(0, 1) = 1; arrive(0) = 1; end(0, 0) = 0; end(0, 11) = 0;",
                "end(0, 4) = 1; end(0, 16) = 1; cause(0) = -4;");
        // The number 0 of an RST with ACK, as far from expected as can be, is interpreted below it.
        Check.runWith("f0,127;", "arrive: 128 before expected", "open(0, 1) = 1; twice(0) = 2; arrive(0) = 0; open(1, 0) = 2;",
                "arrive(0) = 1; arrive(1) = 1; end(0, 5) = 1; arrive(0) = 0; cause(0) = 6; cause(1) = 9; count(5) = 1;");
        Check.runWith("f0,128;", "arrive: 127 after expected", "open(0, 1) = 1; twice(0) = 2; arrive(0) = 0; open(1, 0) = 2;",
                "arrive(0) = 1; arrive(1) = 1; end(0, 5) = 1; arrive(0) = 0; cause(0) = 6; cause(1) = 8; count(5) = 1;");
        Check.run("arrive: an old RST before the window", OPEN, "quit(1) = 4; open(1, 0) = 1; quit(0) = 4; lose(1) = 1;",
                "open(0, 1) = 2; arrive(1) = 1 x 3; say(1, 1) = 1; arrive(1) = 1; end(0, 5) = 2; count(5) = 2;",
                "arrive(0) = 0; cause(0) = 6; cause(1) = 9; count(5) = 1; end(0, 0) = 4;");
    }

    private static void urgent() {
        Check.run("urgent numbers", OPEN, "say(0, 1) = 1; cry(0) = 2; pass(3) = 3; letter(1, 7) = 252; say(0, 2) = 2;",
                "say(0, 3) = 3; cry(0) = 4; pass(6) = 9; letter(2, 7) = 254; arrive(2) = 1; end(1, 15) = 4;",
                "arrive(1) = 0; end(1, 15) = 4; count(10) = 1;");
    }

    private static void acknowledge() {
        Check.run("an old ACK only moves the edge", OPEN, "say(0, 1) = 1; arrive(0) = 1; say(0, 2) = 2; arrive(0) = 1;",
                "end(0, 1) = 2; end(0, 3) = 13; end(0, 11) = 3; arrive(0) = 1; take(1) = 1; take(1) = 2; end(1, 7) = 13;",
                "pass(1) = 1; arrive(0) = 1; end(0, 1) = 3; end(0, 11) = 0; end(0, 3) = 13;");
        Check.run("an ACK of the same position does not touch the timer", OPEN, "say(0, 1) = 1; pass(1) = 1; end(0, 11) = 2;",
                "say(1, 9) = 1; letter(1, 3) = 251; arrive(1) = 1; end(0, 1) = 1; end(0, 11) = 2; end(0, 16) = 1;");
        Check.run("marked positions are forgotten below acked", OPEN, Check.says(0, 1, 9), "arrive(2) = 1; arrive(2) = 1;",
                "known(0, 5) = 0; known(0, 6) = 1; known(0, 9) = 1; known(0, 10) = 0; arrive(0) = 1 x 4; end(0, 1) = 10;",
                "known(0, 6) = 0; known(0, 9) = 0;");
    }

    private static void roundTrips() {
        Check.run("round-trip times", OPEN, "sample(0, 0) = 1; sample(0, 1) = -4; end(0, 9) = 8; end(0, 10) = 2; end(0, 8) = 3;",
                "say(0, 1) = 1; end(0, 16) = 1; pass(2) = 2; arrive(0) = 1; arrive(0) = 1; end(0, 16) = -4; sample(0, 0) = 2;",
                "sample(0, 1) = 1; end(0, 9) = 9; end(0, 10) = 3; end(0, 8) = 4; say(0, 2) = 1; pass(3) = 5; arrive(0) = 1 x 2;",
                "sample(0, 0) = 3; sample(0, 1) = 2; sample(0, 2) = 1; end(0, 9) = 11; end(0, 10) = 5; end(0, 8) = 6;",
                "say(0, 3) = 1; pass(5) = 10; arrive(0) = 1 x 2; end(0, 9) = 15; end(0, 10) = 8; end(0, 8) = 9;",
                "say(0, 4) = 1; arrive(0) = 1 x 2; end(0, 9) = 15; end(0, 10) = 6; end(0, 8) = 7; sample(0, 0) = 1;",
                "say(0, 5) = 1; pass(1) = 11; arrive(0) = 1 x 2; sample(0, 5) = 1; say(0, 6) = 1; pass(4) = 15; arrive(0) = 1 x 2;",
                "sample(0, 0) = 4; sample(0, 1) = 1; sample(0, 2) = 1; sample(0, 3) = 5; sample(0, 4) = 3; sample(0, 5) = 2;",
                "sample(0, 6) = -4; sample(1, 0) = 1; sample(1, 1) = -4;");
        Check.runWith("p1;b20;", "acked reaches the timed position, but is not greater", OPEN, "say(0, 1) = 1; say(0, 2) = 2;",
                "arrive(0) = 1; arrive(1) = 1; end(0, 16) = -4; sample(0, 1) = 1; say(0, 3) = 2; end(0, 16) = 3; arrive(0) = 1;",
                "arrive(1) = 1; end(0, 1) = 3; end(0, 16) = 3; sample(0, 2) = -4; pass(1) = 1; arrive(0) = 1 x 2;",
                "end(0, 16) = -4; sample(0, 0) = 1; sample(0, 2) = 1; end(0, 1) = 4;");
        Check.run("only one position is timed", OPEN, Check.says(0, 1, 5), "end(0, 16) = 1; pass(1) = 1; arrive(0) = 1; arrive(1) = 1;",
                "end(0, 16) = -4; sample(0, 0) = 1; arrive(0) = 1 x 2; end(0, 1) = 6; sample(0, 1) = 1; sample(0, 2) = -4;");
        Check.run("a retransmission ends the timing", OPEN, "say(0, 1) = 1; end(0, 16) = 1; pass(3) = 3; end(0, 16) = -4;",
                "arrive(0) = 1; lose(0) = 1; arrive(0) = 1; end(0, 1) = 2; sample(0, 1) = -4; end(0, 8) = 6;",
                "say(0, 2) = 1; end(0, 16) = 2;");
        Check.run("the timeout is at most 64", "open(0, 1) = 1; pass(6) = 6; end(0, 8) = 12; pass(12) = 18; end(0, 8) = 24;",
                "pass(24) = 42; end(0, 8) = 48; pass(48) = 90; end(0, 8) = 64; pass(64) = 154; end(0, 8) = 64; end(0, 11) = 64;",
                "count(9) = 5; count(5) = 6;");
        Check.run("the timed position is the last one", "open(1, 0) = 0; open(0, 1) = 1;", Check.says(0, 1, 9), "arrive(0) = 1 x 2;",
                "end(0, 16) = 4; count(5) = 3;");
    }

    private static void lose() {
        Check.run("lose", "lose(0) = -1; lose(-1) = -1; open(0, 1) = 1; open(1, 1) = 2; twice(0) = 3; lose(3) = -1;",
                "lose(-1) = -1; lose(1) = 2; letter(0, 0) = 0; letter(1, 0) = 0; lose(1) = 1; lose(0) = 0; lose(0) = -1;",
                "count(10) = 0; count(8) = 0; count(7) = 2; cause(0) = -4; end(0, 0) = 2;");
    }

    private static void twice() {
        Check.run("twice", "twice(0) = -1; twice(-1) = -1; open(0, 1) = 1; twice(1) = -1; twice(0) = 2; count(7) = 1;",
                "open(1, 1) = 3; twice(0) = 4; letter(3, 0) = 0; letter(3, 2) = 250; twice(2) = 5; letter(4, 0) = 1;",
                "letter(4, 2) = 100; count(7) = 2; count(5) = 5;");
        Check.run("twice: a copy with all that the segment has", OPEN, Check.says(0, 1, 6), "cry(0) = 7; lose(0) = 1; pass(3) = 3;",
                "arrive(0) = 1; twice(1) = 3; letter(2, 0) = 1; letter(2, 6) = 1; letter(2, 8) = 252; letter(2, 9) = 0;",
                "letter(2, 4) = 12; twice(0) = 4; letter(3, 7) = 1; byteOf(3, 0) = 1; letter(3, 5) = 4; lose(0) = 3;",
                "letter(2, 7) = 1; byteOf(2, 0) = 1; letter(0, 6) = 1; letter(1, 9) = 0; lose(0) = 2; letter(0, 9) = 0;");
        StreamEnds x = new StreamEnds();
        x.open(0, 1);
        for (int k = 2; k <= 20; k++) {
            Check.same("twice up to 20", x.twice(k - 2), k);
        }
        Check.play("twice: the wire is full", x, "twice(0) = -3; twice(19) = -3; twice(20) = -1; twice(-1) = -1; count(5) = 20;",
                "lose(0) = 19; twice(0) = 20; twice(0) = -3; count(8) = 0;");
    }

    private static void fullWire() {
        StreamEnds x = new StreamEnds();
        Check.play("a full wire", x, OPEN, "say(0, 1) = 1;");
        for (int k = 2; k <= 20; k++) {
            x.twice(0);
        }
        Check.play("a full wire", x, "count(5) = 20; count(7) = 4; pass(3) = 3; count(5) = 20; count(7) = 5; count(8) = 1;",
                "count(9) = 1; end(0, 8) = 6; say(0, 2) = 2; say(1, 9) = 1; count(8) = 2; end(1, 2) = 2; end(1, 16) = 1;",
                "end(1, 11) = 3; arrive(19) = 1; count(5) = 20; letter(19, 0) = 1; arrive(0) = 0; count(5) = 20; lose(3) = 19;",
                "quit(0) = 4; quit(1) = 4; count(5) = 20; count(8) = 3; letter(19, 1) = 8; letter(19, 0) = 0;");
    }

    private static void pass() {
        Check.run("pass", "pass(0) = -1; pass(101) = -1; pass(-5) = -1; count(6) = 0; pass(1) = 1; pass(100) = 101;",
                "count(6) = 101; open(0, 0) = 0; pass(50) = 151; end(0, 0) = 1; count(5) = 0;");
        Check.run("pass: the timers", "open(0, 1) = 1; pass(1) = 1; end(0, 11) = 5; open(1, 1) = 2; pass(4) = 5;",
                "end(0, 11) = 1; end(1, 11) = 2; count(5) = 2; pass(1) = 6; end(0, 11) = 12; end(1, 11) = 1; count(5) = 3;",
                "letter(2, 0) = 0; letter(2, 1) = 1; pass(1) = 7; letter(3, 0) = 1; end(1, 11) = 12; end(0, 11) = 11;");
        Check.run("pass: endpoint 0 is first", "open(1, 1) = 1; open(0, 1) = 2; pass(6) = 6; letter(2, 0) = 0; letter(3, 0) = 1;");
    }

    private static void retransmit() {
        Check.run("retransmit: a SYN in SYN_RECEIVED", "open(1, 0) = 0; open(0, 1) = 1; arrive(0) = 1; lose(0) = 0; pass(6) = 6;",
                "count(5) = 2; letter(0, 1) = 1; letter(1, 1) = 5; letter(1, 3) = 251; count(9) = 2; end(1, 16) = -4;");
        Check.run("retransmit: up to the next marked position", OPEN, Check.says(0, 1, 13), "count(5) = 3; lose(0) = 2;",
                "arrive(0) = 1; lose(0) = 1; arrive(0) = 1; known(0, 1) = 0; known(0, 2) = 1; known(0, 5) = 1; known(0, 6) = 0;",
                "pass(3) = 3; count(5) = 1; letter(0, 2) = 251; letter(0, 5) = 1; count(9) = 1; pass(6) = 9; letter(1, 5) = 1;",
                "arrive(0) = 1; arrive(1) = 1; end(0, 1) = 6; end(0, 2) = 10; end(0, 8) = 12; end(0, 11) = 12; pass(12) = 21;",
                "count(5) = 2; letter(1, 2) = 0; letter(1, 5) = 4; byteOf(1, 0) = 6; count(9) = 3;");
        Check.run("retransmit: bytes of several segments, and FIN", OPEN, "say(0, 1) = 1; say(0, 2) = 2; leave(0) = 5;",
                "count(5) = 2; lose(0) = 1; lose(0) = 0; pass(3) = 3; count(5) = 1; letter(0, 1) = 6; letter(0, 5) = 2;",
                "letter(0, 2) = 251; end(0, 2) = 4; count(9) = 1; end(0, 8) = 6; arrive(0) = 1; end(1, 0) = 7;");
        Check.run("retransmit: as many bytes as the segment size, and FIN", OPEN, Check.says(0, 1, 4), "leave(0) = 5;",
                "lose(0) = 1; lose(0) = 0; pass(3) = 3; letter(0, 1) = 6; letter(0, 5) = 4; end(0, 2) = 6;");
        Check.run("retransmit: the segment size leaves FIN for later", OPEN, Check.says(0, 1, 5), "leave(0) = 5;",
                "lose(0) = 2; lose(0) = 1; lose(0) = 0; pass(3) = 3; letter(0, 1) = 4; letter(0, 5) = 4; end(0, 2) = 7;");
        Check.run("retransmit: FIN alone", OPEN, "leave(0) = 5; lose(0) = 0; pass(3) = 3; count(5) = 1; letter(0, 1) = 6;",
                "letter(0, 5) = 0; letter(0, 2) = 251; letter(0, 7) = -4; end(0, 16) = -4; count(9) = 1;");
        Check.run("retransmit: FIN is behind a marked byte", OPEN, "say(0, 1) = 1; say(0, 2) = 2; say(0, 3) = 3;",
                "leave(0) = 5; letter(1, 5) = 2; arrive(1) = 1; lose(0) = 1; arrive(0) = 1; known(0, 2) = 1; known(0, 3) = 1;",
                "known(0, 4) = 0; pass(3) = 3; letter(0, 5) = 1; letter(0, 1) = 4; letter(0, 2) = 251; end(1, 17) = 4;");
    }

    private static void stalled() {
        Check.runWith("p4;b8;", "stalled: a small segment, then probes", OPEN, Check.says(0, 1, 12), "arrive(0) = 1 x 4; count(5) = 0;",
                "end(0, 1) = 6; end(0, 2) = 6; end(0, 3) = 9; end(0, 4) = 7; end(0, 11) = 3; end(0, 16) = -4; pass(3) = 3;",
                "count(5) = 1; letter(0, 1) = 4; letter(0, 2) = 6; letter(0, 5) = 3; end(0, 2) = 9; end(0, 16) = 8;",
                "count(9) = 0; end(0, 8) = 6; end(0, 11) = 6; arrive(0) = 1 x 2; end(0, 1) = 9; end(0, 8) = 3; end(0, 11) = 3;",
                "pass(3) = 6; count(5) = 1; letter(0, 2) = 8; letter(0, 5) = 0; letter(0, 1) = 4; end(0, 8) = 6; end(0, 11) = 6;",
                "pass(6) = 12; count(5) = 2; end(0, 8) = 12; end(0, 11) = 12; count(9) = 0; end(0, 16) = -4;",
                "take(1) = 1; take(1) = 2; take(1) = 3; take(1) = 4; end(1, 7) = 13; count(5) = 3; arrive(0) = 0;",
                "cause(1) = 9; count(5) = 3; arrive(1) = 1; end(0, 3) = 13; end(0, 2) = 13; end(0, 4) = 4; end(0, 16) = 12;",
                "end(0, 11) = 12; count(5) = 3; letter(2, 5) = 4; letter(2, 2) = 9;");
        Check.runWith("p1;b2;", "stalled: one unsent byte is enough", OPEN, Check.says(0, 1, 3), "arrive(0) = 1 x 4; end(0, 1) = 3;",
                "end(0, 2) = 3; end(0, 3) = 3; end(0, 11) = 3; pass(3) = 3; letter(0, 2) = 2; letter(0, 5) = 0;");
        Check.runWith("p4;b8;", "stalled: FIN waits at the edge", OPEN, Check.says(0, 1, 8), "leave(0) = 4; arrive(0) = 1 x 6;",
                "end(0, 1) = 9; end(0, 2) = 9; end(0, 4) = 0; end(0, 11) = 3; pass(3) = 3; letter(0, 2) = 8; letter(0, 1) = 4;",
                "end(0, 0) = 4; end(0, 2) = 9;");
    }

    private static void timeWait() {
        Check.run("TIME_WAIT: the wait timer begins again", OPEN, "leave(0) = 5; arrive(0) = 1; leave(1) = 9; arrive(0) = 1;",
                "twice(0) = 2; arrive(0) = 1; end(0, 0) = 10; end(0, 12) = 10; pass(3) = 3; end(0, 12) = 7; arrive(0) = 0;",
                "cause(0) = 6; cause(1) = 9; end(0, 12) = 10;");
        Check.runWith("l1;", "TIME_WAIT: twice the lifetime", OPEN, "leave(0) = 5; arrive(0) = 1; leave(1) = 9; arrive(0) = 1 x 2;",
                "end(0, 12) = 2; pass(1) = 1; end(0, 0) = 10; pass(1) = 2; end(0, 0) = 0; end(0, 12) = 0;");
    }

    private static void drive() {
        Check.run("drive: wrong arguments", "open(0, 1) = 1; drive(-1, 1) = -1; drive(10000, 1) = -1; drive(0, 0) = -1;",
                "drive(0, 61) = -1; drive(0, -1) = -1; count(6) = 0; count(5) = 1;");
        Check.run("drive: an empty wire is only ticks", "drive(0, 60) = 0; count(6) = 60; drive(9999, 1) = 0; count(6) = 61;");
    }

    /** What happens in one event is what the call for it would have done. */
    private static void driveEvents() {
        int[] seen = new int[4];
        for (int z = 0; z <= 9999; z += 7) {
            StreamEnds x = readied();
            StreamEnds y = readied();
            long n = 7919L * z + 1;
            long d = n * n % 65521;
            int i = (int) (d / 8 % y.count(5));
            int kind = d % 8 == 0 ? 0 : d / 256 % 8 == 0 ? 1 : d / 256 % 8 == 1 ? 2 : 3;
            seen[kind]++;
            switch (kind) {
                case 0 -> y.pass(1);
                case 1 -> y.lose(i);
                case 2 -> y.twice(i);
                default -> y.arrive(i);
            }
            Check.same("drive(" + z + ", 1)", x.drive(z, 1), y.count(5));
            for (int what = 5; what <= 10; what++) {
                Check.same("count after drive(" + z + ", 1)", x.count(what), y.count(what));
            }
            Check.same("cause after drive(" + z + ", 1)", x.cause(0), y.cause(0));
            for (int k = 0; k < y.count(5); k++) {
                Check.same("letter after drive(" + z + ", 1)", x.letter(k, 2), y.letter(k, 2));
            }
        }
        for (int kind = 0; kind < 4; kind++) {
            Check.same("was event " + kind + " seen", seen[kind] > 0 ? 1 : 0, 1);
        }
    }

    private static StreamEnds readied() {
        StreamEnds x = new StreamEnds();
        Check.play("readied", x, OPEN, Check.says(0, 1, 9), "say(1, 1) = 1; twice(1) = 5; count(5) = 5;");
        return x;
    }

    private static void calm() {
        Check.run("calm: wrong argument, and nothing happens", "calm(-1) = -1; calm(6) = -1; calm(0) = 0; calm(1) = 0;",
                "calm(3) = 0; calm(4) = 0; calm(5) = 0; open(0, 0) = 0; calm(0) = 0; calm(1) = 1;");
        Check.run("calm: nothing changes", "open(1, 0) = 0; open(0, 1) = 1; say(0, 7) = 1; calm(0) = 4; calm(1) = 4; calm(2) = 4;",
                "calm(3) = 0; calm(4) = 1; calm(5) = 4; count(5) = 1; count(6) = 0; count(7) = 1; count(10) = 0; end(0, 0) = 2;",
                "end(1, 0) = 1; end(0, 11) = 6; cause(0) = -4; take(1) = -4; sample(0, 0) = -4; letter(0, 1) = 1;");
        Check.run("calm: a refused connection", "open(0, 1) = 1; calm(0) = 2; calm(1) = 0; calm(2) = 0; calm(5) = 1;",
                "pass(5) = 5; calm(0) = 3; open(1, 0) = 1; calm(1) = 4; calm(2) = 4;");
        Check.runWith("p4;b8;", "calm: 300 ticks at the most", OPEN, Check.says(0, 1, 12), "calm(0) = 300; calm(1) = 4; calm(4) = 8;",
                "count(6) = 0; count(5) = 2;");
        Check.run("calm: the causes stay", OPEN, "say(0, 1) = 1; twice(0) = 2; arrive(0) = 1; arrive(0) = 0; cause(1) = 9;",
                "calm(0) = 1; cause(0) = 6; cause(1) = 9; count(10) = 1; twice(0) = 3; calm(5) = 0; count(10) = 1;");
    }

    /** What calm() tells is what the calls for it then bring about. */
    private static void calmIsPlayed() {
        String[][] states = {
            {OPEN, Check.says(0, 1, 20), "say(1, 5) = 1; cry(0) = 21; lose(0) = 3; arrive(0) = 1; pass(2) = 2; leave(0) = 4;"},
            {OPEN, Check.says(0, 1, 9), "arrive(2) = 1 x 2; known(0, 6) = 1; pass(1) = 1; lose(0) = 1; say(1, 3) = 1; leave(1) = 5;"},
            {OPEN, Check.says(1, 1, 3), "leave(1) = 5; arrive(1) = 1; end(0, 17) = 4; lose(0) = 1; pass(1) = 1; leave(0) = 5;"},
            {OPEN, "leave(0) = 5; arrive(0) = 1 x 2; leave(1) = 9; pass(1) = 1; arrive(0) = 1; lose(0) = 0; pass(2) = 3;"},
            {OPEN, "say(0, 1) = 1; pass(2) = 2; arrive(0) = 1 x 2; say(0, 2) = 1; pass(3) = 5; say(1, 8) = 1; lose(0) = 1;"},
            {"open(0, 1) = 1; open(1, 1) = 2;", Check.says(0, 1, 7), "pass(5) = 5; twice(1) = 3; leave(1) = 0; open(1, 1) = 4;"},
        };
        for (int state = 0; state < states.length; state++) {
            StreamEnds x = new StreamEnds();
            Check.play("calm is played, state " + state, x, states[state]);
            int[] told = new int[6];
            for (int what = 0; what <= 5; what++) {
                told[what] = x.calm(what);
            }
            int sent = x.count(7);
            int ticks = 0;
            while (ticks < 300 && (x.count(5) > 0 || x.end(0, 11) + x.end(1, 11) > 0 || x.end(0, 0) == 10 || x.end(1, 0) == 10)) {
                for (int k = x.count(5); k > 0; k--) {
                    x.arrive(0);
                }
                x.pass(1);
                ticks++;
            }
            int[] due = {ticks, x.end(0, 0), x.end(1, 0), 0, 0, x.count(7) - sent};
            due[3] = takable(x, 0);
            due[4] = takable(x, 1);
            for (int what = 0; what <= 5; what++) {
                Check.same("calm(" + what + ") in state " + state, told[what], due[what]);
            }
        }
    }

    private static int takable(StreamEnds x, int e) {
        int n = 0;
        while (x.take(e) != StreamEnds.NONE) {
            n++;
        }
        return n;
    }
}
