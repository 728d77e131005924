/** The five examples of the document, call for call. */
public final class ExamplesTest {
    public static void main(String[] args) {
        Check.run("1. A handshake, and bytes",
                "open(0, 1) = 1; letter(0, 2) = 250; open(1, 0) = 1; arrive(0) = 1; letter(0, 1) = 5; letter(0, 3) = 251;",
                "arrive(0) = 1; end(0, 0) = 4; arrive(0) = 1; end(1, 0) = 4; say(0, 65) = 1; say(0, 66) = 2;",
                "letter(0, 5) = 1; arrive(0) = 1; take(1) = 65; calm(4) = 1;");
        Check.run("2. A segment to a closed endpoint, and calls that are not possible",
                "open(0, 1) = 1; arrive(0) = 0; cause(0) = 1; letter(0, 1) = 12; letter(0, 3) = 251; arrive(0) = 1;",
                "end(0, 0) = 0; count(10) = 1; open(0, 0) = 0; open(0, 0) = -2; leave(0) = 0; leave(0) = -2;",
                "say(0, 1) = -2; cry(0) = -2; quit(0) = -2; take(0) = -4;");
        Check.run("3. A retransmission, lost and duplicated segments",
                "open(0, 1) = 1; end(0, 11) = 6; pass(6) = 6; count(5) = 2; count(9) = 1; end(0, 8) = 12;",
                "lose(0) = 1; twice(0) = 2; letter(0, 7) = -4; letter(2, 0) = -1; calm(0) = 2; calm(5) = 2;",
                "drive(7, 9) = 2; end(0, 16) = -4; known(0, 0) = 0; span(1, -1, 0) = 0;");
        Check.run("4. A faulty text",
                "write(112) = 1; write(51) = 2; write(59) = 3; write(98) = 4; write(54) = 5; write(59) = 6;",
                "write(108) = 7; write(49) = 8; write(59) = 9; write(102) = 10; write(48) = 11; write(44) = 12;",
                "write(48) = 13; fault() = 9; lay() = -2; write(59) = 14;");
        Check.run("5. An orderly release",
                "open(1, 0) = 0; open(0, 1) = 1; arrive(0) = 1; arrive(0) = 1; arrive(0) = 1; leave(0) = 5;",
                "letter(0, 1) = 6; arrive(0) = 1; end(1, 0) = 7; arrive(0) = 1; end(0, 0) = 6; leave(1) = 9;",
                "arrive(0) = 1; arrive(0) = 1; end(0, 12) = 10; end(1, 0) = 0;");
        Check.end("ExamplesTest");
    }
}
