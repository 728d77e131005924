/** Promises 12 to 17, at the edges: indexes, an empty and a full wire, ticks, events, and calm(). */
public final class WireBoundsTest {
    private static final String OPEN = States.OPEN;
    private static final int MIN = Integer.MIN_VALUE, MAX = Integer.MAX_VALUE;

    public static void main(String[] args) {
        indexes();
        arrive();
        lose();
        twice();
        pass();
        driveArguments();
        driveOnEmptyWire();
        driveEvents();
        driveOnFullWire();
        driveTellsTheCause();
        calmArguments();
        calmGoesOn();
        calmStops();
        calmRounds();
        calmBytes();
        calmSent();
        calmIsPlayed();
        Check.end("WireBoundsTest");
    }

    private static void indexes() {
        for (int size : new int[] {0, 1, 2, 19, 20}) {
            String run = size == 0 ? "" : "open(0, 1) = 1;" + States.fill(1, size);
            for (int i : new int[] {MIN, -1, size, size + 1, 21, MAX}) {
                Check.run("BAD if there is no such segment, of " + size, run, "count(5) = " + size + "; arrive(" + i
                        + ") = -1; lose(" + i + ") = -1; twice(" + i + ") = -1;",
                        "letter(" + i + ", 0) = -1; byteOf(" + i + ", 0) = -1; count(5) = " + size
                                + "; count(10) = 0; cause(0) = -4;");
            }
            for (int i : size == 0 ? new int[0] : new int[] {0, size - 1}) {
                Check.run("there is such a segment, of " + size, run, "letter(" + i + ", 0) = 0; byteOf(" + i
                        + ", 0) = -4; lose(" + i + ") = " + (size - 1) + ";");
                Check.run("there is such a segment, of " + size, run, "arrive(" + i + ") = 0; count(5) = " + size
                        + "; count(10) = 1;");
                Check.run("there is such a segment, of " + size, run, "twice(" + i + ") = " + (size == 20 ? -3 : size + 1)
                        + ";");
            }
        }
    }

    private static void arrive() {
        Check.run("arrive: 1 if it is accepted", "open(1, 0) = 0; open(0, 1) = 1; arrive(0) = 1; count(10) = 0;");
        Check.run("arrive: 0 if it is dropped", "open(0, 1) = 1; arrive(0) = 0; count(10) = 1;");
        Check.run("arrive: it is removed from the wire, and the others stay in their order", OPEN, Check.says(0, 1, 9),
                "count(5) = 3; arrive(1) = 1; count(5) = 3; letter(0, 2) = 251;",
                "letter(1, 2) = 0; letter(2, 0) = 1;");
        Check.run("arrive: at the peer of the endpoint that sent it", OPEN, "say(0, 1) = 1; say(1, 2) = 1; arrive(1) = 1; "
                + "take(0) = 2; take(1) = -4; arrive(0) = 1; take(1) = 1;");
    }

    private static void lose() {
        Check.run("lose: the first", OPEN, Check.says(0, 1, 9), "lose(0) = 2; letter(0, 2) = 252; letter(1, 2) = 0; "
                + "letter(2, 2) = -1;");
        Check.run("lose: one between", OPEN, Check.says(0, 1, 9), "lose(1) = 2; letter(0, 2) = 251; letter(1, 2) = 0; "
                + "letter(2, 2) = -1;");
        Check.run("lose: the last", OPEN, Check.says(0, 1, 9), "lose(2) = 2; letter(0, 2) = 251; letter(1, 2) = 252; "
                + "letter(2, 2) = -1;");
        Check.run("lose: the only one, and then there is none", "open(0, 1) = 1; lose(0) = 0; lose(0) = -1; count(8) = 0; "
                + "count(7) = 1;");
    }

    private static void twice() {
        Check.run("twice: a copy of it is put on the wire as the last one", OPEN, Check.says(0, 1, 9),
                "twice(0) = 4; letter(0, 2) = 251; letter(1, 2) = 252; letter(3, 2) = 251; letter(3, 5) = 1;",
                "byteOf(3, 0) = 1; twice(1) = 5; letter(4, 2) = 252; byteOf(4, 3) = 5;");
        Check.run("twice: does not count as sending", OPEN, "say(0, 1) = 1; pass(1) = 1; twice(0) = 2; count(7) = 4; "
                + "count(8) = 0; count(9) = 0; end(0, 16) = 1; end(0, 11) = 2; end(0, 2) = 2;");
        Check.run("twice: 19 segments become 20, and then FULL", "open(0, 1) = 1;", States.fill(1),
                "twice(0) = -3; count(8) = 0; lose(5) = 19; twice(18) = 20; twice(18) = -3;");
        Check.run("twice: a copy of it, with its urgent number", OPEN, Check.says(0, 1, 6),
                "cry(0) = 7; lose(0) = 1; pass(3) = 3; letter(1, 7) = 1; twice(1) = 3; letter(2, 7) = 1; letter(2, 5) = 4; "
                + "byteOf(2, 3) = 4;",
                "letter(2, 1) = 4; letter(2, 3) = 101; letter(2, 4) = 12; letter(2, 6) = 0;");
        Check.runWith("p1;b20;f0,0;", "twice: a copy of it, with its ranges", OPEN, Check.says(0, 1, 8),
                "arrive(7) = 1; arrive(5) = 1; twice(7) = 9; letter(8, 0) = 1; letter(8, 6) = 2; letter(8, 8) = 6; "
                + "letter(8, 9) = 7;",
                "letter(8, 10) = 8; letter(8, 11) = 9; letter(8, 3) = 1; letter(8, 4) = 20; twice(0) = 10; letter(9, 6) = 0; "
                        + "letter(9, 8) = -4; letter(9, 5) = 1;");
        Check.run("twice: what happens to the one does not happen to the other", OPEN,
                "say(0, 7) = 1; twice(0) = 2; arrive(0) = 1; byteOf(0, 0) = 7; letter(0, 3) = 101; letter(1, 3) = 252;");
    }

    private static void pass() {
        for (int n : new int[] {MIN, -1, 0, 101, 102, MAX}) {
            Check.run("pass: 1 to 100", "open(0, 1) = 1; pass(" + n + ") = -1; count(6) = 0; end(0, 11) = 6;");
        }
        Check.run("pass: 1 to 100", "pass(1) = 1; pass(100) = 101; pass(99) = 200; count(6) = 200;");
        Check.run("pass: as many ticks", "open(0, 1) = 1; pass(5) = 5; end(0, 11) = 1; count(9) = 0; pass(1) = 6; "
                + "count(9) = 1; pass(100) = 106; count(9) = 4;");
    }

    private static void driveArguments() {
        for (int z : new int[] {MIN, -1, 10000, 10001, MAX}) {
            Check.run("drive: a number, 0 to 9999", "drive(" + z + ", 1) = -1; drive(" + z + ", 60) = -1; count(6) = 0;");
        }
        for (int n : new int[] {MIN, -1, 0, 61, 62, MAX}) {
            Check.run("drive: the number of events, 1 to 60", "drive(0, " + n + ") = -1; drive(9999, " + n
                    + ") = -1; count(6) = 0;");
        }
        Check.run("drive: both at their ends", "drive(0, 1) = 0; count(6) = 1; drive(9999, 60) = 0; count(6) = 61; "
                + "drive(0, 60) = 0; count(6) = 121; drive(9999, 1) = 0; count(6) = 122;");
    }

    private static void driveOnEmptyWire() {
        Check.run("drive: if the wire is empty, the event is a tick", "open(0, 0) = 0; drive(3, 1) = 0; count(6) = 1; "
                + "drive(3, 7) = 0; count(6) = 8; cause(0) = -4;");
        Check.run("drive: the wire has no segments until a tick sends one", "open(0, 1) = 1; lose(0) = 0; drive(3, 5) = 0; "
                + "count(6) = 5; end(0, 11) = 1; drive(3, 1) = 1; count(6) = 6;");
    }

    /** The events of a drive, brought about by the calls for them. */
    private static int driven(StreamEnds y, int z, int n, int[] met) {
        for (int k = 0; k < n; k++) {
            long x = 7919L * z + 6151L * k + 1;
            long d = x * x % 65521;
            int size = y.count(5);
            if (size == 0 || d % 8 == 0) {
                y.pass(1);
                met[0] += size == 0 ? 1 : 0;
                met[1] += size == 0 ? 0 : 1;
                continue;
            }
            int i = (int) (d / 8 % size);
            long fate = d / 256 % 8;
            if (fate == 0) {
                y.lose(i);
                met[2]++;
            } else if (fate == 1) {
                met[y.twice(i) == StreamEnds.FULL ? 3 : 4]++;
            } else {
                met[5 + y.arrive(i)]++;
            }
        }
        return y.count(5);
    }

    private static void driveEvents() {
        int[] met = new int[7];
        String[] begins = {OPEN + Check.says(0, 1, 12) + Check.says(1, 1, 12), "open(1, 0) = 0; open(0, 1) = 1;"
                + Check.says(0, 1, 30), OPEN + "say(0, 1) = 1; leave(0) = 5; leave(1) = 5;",
            OPEN + "say(0, 1) = 1;" + States.fill(1)};
        int[] numbers = {0, 1, 2, 9, 10, 99, 100, 999, 1000, 4999, 5000, 5851, 5852, 7777, 9998, 9999};
        for (String begin : begins) {
            for (int z : numbers) {
                for (int n : new int[] {1, 2, 7, 59, 60}) {
                    StreamEnds x = new StreamEnds();
                    StreamEnds y = new StreamEnds();
                    String title = "drive(" + z + ", " + n + ") after " + begin;
                    Check.play(title, x, begin);
                    Check.play(title, y, begin);
                    Check.same(title, x.drive(z, n), driven(y, z, n, met));
                    Check.same(title + ": all that is seen", Look.at(x).equals(Look.at(y)) ? 1 : 0, 1);
                }
            }
        }
        String[] kinds = {"a tick on an empty wire", "a tick", "lost", "not duplicated", "duplicated", "dropped", "accepted"};
        for (int kind = 0; kind < kinds.length; kind++) {
            Check.same("drive: an event has been met: " + kinds[kind], met[kind] > 0 ? 1 : 0, 1);
        }
    }

    /** The first number z for which drive(z, 1) is an event of this kind on a wire of 20. */
    private static int numberFor(boolean tick, int fate) {
        for (int z = 0; z <= 9999; z++) {
            long x = 7919L * z + 1;
            long d = x * x % 65521;
            if (d % 8 == 0 == tick && (tick || d / 256 % 8 == fate)) {
                return z;
            }
        }
        return -1;
    }

    private static void driveOnFullWire() {
        String full = "open(0, 1) = 1;" + States.fill(1);
        Check.run("drive: a tick though the wire is full", full, "drive(" + numberFor(true, 0)
                + ", 1) = 20; count(6) = 1; count(10) = 0;");
        Check.run("drive: lost", full, "drive(" + numberFor(false, 0) + ", 1) = 19; count(6) = 0; count(10) = 0; "
                + "count(8) = 0;");
        Check.run("drive: nothing happens if there are 20 segments", full, "drive(" + numberFor(false, 1)
                + ", 1) = 20; count(6) = 0; count(10) = 0; count(8) = 0; count(7) = 1;");
        Check.run("drive: duplicated if there are 19", full, "lose(3) = 19; drive(" + numberFor(false, 1)
                + ", 1) = 20; count(7) = 1; count(10) = 0;");
        for (int fate = 2; fate <= 7; fate++) {
            Check.run("drive: it arrives otherwise", full, "drive(" + numberFor(false, fate)
                    + ", 1) = 20; count(10) = 1; cause(0) = 1; count(6) = 0;");
        }
    }

    private static void driveTellsTheCause() {
        int z = numberFor(false, 2);
        Check.run("the segment that arrived last by drive()", "open(0, 1) = 1; cause(0) = -4; drive(" + z
                + ", 1) = 1; cause(0) = 1; cause(1) = -4;");
        Check.run("the segment that arrived last by drive()", "open(0, 1) = 1; twice(0) = 2; arrive(0) = 0; cause(0) = 1; "
                + "open(1, 0) = 2; lose(1) = 1; drive(" + z + ", 1) = 1; cause(0) = -4;");
    }

    private static void calmArguments() {
        for (int what : new int[] {MIN, -1, 6, 7, MAX}) {
            Check.run("calm: BAD if what is not 0 to 5", "calm(" + what + ") = -1; open(0, 1) = 1; calm(" + what + ") = -1;");
        }
        Check.run("calm: what is 0 to 5", "open(1, 0) = 0; open(0, 1) = 1; say(0, 1) = 1; calm(0) = 4; calm(1) = 4; "
                + "calm(2) = 4; calm(3) = 0; calm(4) = 1; calm(5) = 4;");
        Check.run("calm: nothing happens", "calm(0) = 0; calm(1) = 0; calm(2) = 0; calm(3) = 0; calm(4) = 0; calm(5) = 0;");
    }

    private static void calmGoesOn() {
        String s = "calm: As long as ";
        Check.run(s + "the wire has a segment", OPEN, "quit(0) = 4; calm(0) = 1; calm(2) = 0; arrive(0) = 1; calm(0) = 0;");
        Check.run(s + "the timer of endpoint 0 is not 0", "open(0, 1) = 1; lose(0) = 0; calm(0) = 8; calm(1) = 0; "
                + "calm(5) = 2;");
        Check.run(s + "the timer of endpoint 1 is not 0", "open(1, 1) = 1; lose(0) = 0; calm(0) = 8; calm(2) = 0; "
                + "calm(5) = 2;");
        Check.run(s + "endpoint 0 is in state TIME_WAIT", States.RUNS[10], "arrive(0) = 1; end(1, 0) = 0; count(5) = 0; "
                + "calm(0) = 10; calm(1) = 0; pass(9) = 9; calm(0) = 1; pass(1) = 10; calm(0) = 0;");
        Check.run(s + "endpoint 1 is in state TIME_WAIT", OPEN, "leave(1) = 5; arrive(0) = 1; leave(0) = 9; arrive(0) = 1 x 3; "
                + "end(0, 0) = 0; end(1, 0) = 10; calm(0) = 10; calm(2) = 0;");
        Check.run(s + "not because bytes can be taken", OPEN, "say(0, 1) = 1; arrive(0) = 1 x 2; calm(0) = 0; calm(4) = 1;");
        Check.run(s + "not in other states", States.RUNS[6], "calm(0) = 0; calm(1) = 6; calm(2) = 7;");
    }

    private static void calmStops() {
        Check.runWith("p1;b2;", "calm: and fewer than 300 ticks have passed", OPEN, Check.says(0, 1, 3),
                "calm(0) = 300; calm(1) = 4; calm(2) = 4; calm(4) = 2;");
        Check.runWith("p1;b2;", "calm: 300 ticks, whatever the time is", OPEN, Check.says(0, 1, 3),
                "pass(100) = 100; pass(100) = 200; calm(0) = 300; count(6) = 200;");
        Check.runWith("l20;", "calm: less than 300 ticks", States.RUNS[10], "arrive(0) = 1; calm(0) = 40;");
    }

    private static void calmRounds() {
        Check.run("calm: let m be the number of segments on the wire: the answers wait for the next tick",
                "open(1, 0) = 0; open(0, 1) = 1; calm(0) = 3; calm(5) = 2;");
        Check.run("calm: m is 2", OPEN, "say(0, 1) = 1; say(1, 2) = 1; calm(0) = 2; calm(5) = 2; calm(3) = 1; calm(4) = 1;");
        Check.run("calm: m is 20", OPEN, "say(0, 1) = 1;", States.fill(1), "calm(0) = 2; calm(5) = 20; calm(4) = 1;");
        Check.run("calm: then there is a tick", OPEN, "say(0, 1) = 1; pass(2) = 2; end(0, 11) = 1; calm(0) = 3; calm(5) = 3;");
    }

    private static void calmBytes() {
        String s = "calm: how many bytes they could consume one after the other at the end";
        Check.run(s + ": none", OPEN, "calm(3) = 0; calm(4) = 0;");
        Check.run(s + ": what is there already", OPEN, "say(0, 1) = 1; say(1, 2) = 1; arrive(0) = 1 x 2; arrive(0) = 1 x 2; "
                + "calm(3) = 1; calm(4) = 1; take(1) = 1; calm(3) = 1; calm(4) = 0;");
        Check.run(s + ": up to a full window", OPEN, Check.says(0, 1, 20), "calm(4) = 12; calm(3) = 0; calm(0) = 300;");
        Check.run(s + ": not FIN", OPEN, Check.says(0, 1, 3), "leave(0) = 5; calm(4) = 3; calm(1) = 6; calm(2) = 7;");
        Check.run(s + ": not what is held behind a gap", OPEN, Check.says(0, 1, 5), "arrive(1) = 1; lose(0) = 1; quit(0) = 4; "
                + "calm(4) = 0; calm(2) = 0;");
        Check.run(s + ": not what is held behind a gap, though fin is noted", OPEN, Check.says(0, 1, 3), "leave(0) = 5; "
                + "arrive(1) = 1; lose(0) = 1; quit(0) = 5; calm(4) = 0; calm(2) = 0;");
        Check.run(s + ": in the states CLOSED and LISTEN", OPEN, "say(0, 1) = 1; arrive(0) = 1; quit(1) = 4; calm(4) = 1; "
                + "open(1, 0) = 2; calm(4) = 0;");
    }

    private static void calmSent() {
        Check.run("calm: how many segments are sent meanwhile: not before", OPEN, "say(0, 1) = 1; count(7) = 4; calm(5) = 1; "
                + "arrive(0) = 1; count(7) = 5; calm(5) = 0;");
        Check.run("calm: how many segments are sent meanwhile: also one that is lost at once",
                "open(1, 0) = 0; open(0, 1) = 1; say(0, 1) = 1; arrive(0) = 1;", States.fill(1),
                "calm(5) = 23; calm(0) = 5; calm(4) = 1;");
    }

    /** What calm() tells is what the calls for it then bring about, in every state. */
    private static void calmIsPlayed() {
        String[][] all = {States.RUNS, States.FULL_PENDING, States.RELEASING, States.USED, States.FULL_WIRE, {States.HOLDING},
                BUSY};
        for (String[] runs : all) {
            for (String run : runs) {
                calmIsPlayed(run);
            }
        }
    }

    private static final String[] BUSY = {
        OPEN + Check.says(0, 1, 13) + "arrive(2) = 1 x 2; lose(1) = 1; lose(0) = 0; pass(2) = 2;",
        OPEN + Check.says(0, 1, 9) + "arrive(2) = 1 x 2; arrive(0) = 1; pass(1) = 1; leave(0) = 5; lose(0) = 2;",
        OPEN + "say(0, 1) = 1; arrive(0) = 1; take(1) = 1; arrive(0) = 1;" + Check.says(0, 1, 20) + "lose(0) = 2; pass(1) = 1;",
        OPEN + "say(0, 1) = 1; pass(2) = 2; arrive(0) = 1 x 2; say(0, 2) = 1; pass(3) = 5; lose(0) = 0; say(0, 3) = 2;",
        OPEN + Check.says(1, 1, 3) + "leave(1) = 5; arrive(1) = 1; end(0, 17) = 4; lose(0) = 1; pass(1) = 1; leave(0) = 5;",
        OPEN + Check.says(0, 1, 30) + "leave(0) = 4; arrive(0) = 1 x 4; take(1) = 1; take(1) = 2; take(1) = 3; take(1) = 4;",
        OPEN + Check.says(0, 1, 14) + "arrive(0) = 1 x 6; end(0, 1) = 10; end(0, 2) = 10; end(0, 3) = 13;",
        "open(1, 0) = 0; open(0, 1) = 1; arrive(0) = 1; pass(5) = 5; arrive(0) = 1 x 2;" + Check.says(0, 1, 30),
        OPEN + "pass(20) = 20;" + Check.says(0, 1, 30),
        "open(0, 1) = 1; pass(18) = 18; lose(2) = 2; lose(1) = 1; open(1, 0) = 1; arrive(0) = 1 x 3; sample(0, 0) = -4;"
                + Check.says(0, 1, 30) + "pass(2) = 20;",
        States.laid("p1;b20;", 1) + States.ALL_MARKED + "lose(1) = 1; lose(0) = 0;",
        States.laid("p8;b16;f255,3;l20;", 8) + OPEN + Check.says(0, 1, 30) + "leave(1) = 5; arrive(0) = 1; pass(1) = 1;"};

    private static void calmIsPlayed(String run) {
        int[] told = new int[6];
        for (int what = 0; what <= 5; what++) {
            told[what] = played(run).calm(what);
        }
        StreamEnds x = played(run);
        int sent = x.count(7);
        int ticks = 0;
        while (ticks < 300 && (x.count(5) > 0 || x.end(0, 11) != 0 || x.end(1, 11) != 0 || x.end(0, 0) == 10 || x.end(1, 0) == 10)) {
            for (int m = x.count(5); m > 0; m--) {
                x.arrive(0);
            }
            x.pass(1);
            ticks++;
        }
        int sentMeanwhile = x.count(7) - sent;
        int[] due = {ticks, x.end(0, 0), x.end(1, 0), taken(x, 0), taken(x, 1), sentMeanwhile};
        for (int what = 0; what <= 5; what++) {
            Check.same("calm(" + what + ") after " + run, told[what], due[what]);
        }
    }

    private static StreamEnds played(String run) {
        StreamEnds x = new StreamEnds();
        Check.play("calm is played", x, run);
        return x;
    }

    private static int taken(StreamEnds x, int e) {
        int n = 0;
        while (x.take(e) != StreamEnds.NONE) {
            n++;
        }
        return n;
    }
}
