import java.util.ArrayList;
import java.util.Arrays;
import java.util.List;
import java.util.Random;

/**
 * Runs of at most 512 calls, chosen by a seeded random source, on StreamEnds and on Reference: after
 * every call all that can be looked at must be the same in both.
 */
public final class ReferenceTest {
    private static final int BAD_SHOWN = 5;
    private static int shown = 0;

    private final Random random;
    private final StreamEnds x = new StreamEnds();
    private final Reference y = new Reference();
    private final List<String> calls = new ArrayList<>();
    private final int mood;

    private ReferenceTest(long seed) {
        random = new Random(seed);
        mood = random.nextInt(8);
    }

    public static void main(String[] args) {
        int runs = args.length > 0 ? Integer.parseInt(args[0]) : 2000;
        long base = args.length > 1 ? Long.parseLong(args[1]) : 0;
        int[] reached = new int[11];
        int[] reasons = new int[11];
        for (int run = 0; run < runs; run++) {
            new ReferenceTest(base + run).run(reached, reasons);
        }
        for (int state = 0; state <= 10; state++) {
            Check.same("was state " + state + " reached", reached[state] > 0 ? 1 : 0, 1);
        }
        // Reason 10 needs a long directed run, which WireTest has.
        for (int reason = 1; reason <= 9; reason++) {
            Check.same("was reason or cause " + reason + " met", reasons[reason] > 0 ? 1 : 0, 1);
        }
        System.out.println("states met " + Arrays.toString(reached));
        System.out.println("reasons met " + Arrays.toString(reasons));
        Check.end("ReferenceTest");
    }

    private void run(int[] reached, int[] reasons) {
        if (random.nextInt(4) != 0 || mood == 6) {
            layConfig();
        }
        boolean same = true;
        while (same && calls.size() < 512) {
            same = mood == 6 ? longStep() : mood == 7 ? reopeningStep() : step();
            same = same && looksAlike();
            reached[y.end(0, 0)]++;
            reached[y.end(1, 0)]++;
            if (y.cause(0) > 0) {
                reasons[y.cause(0)]++;
            }
            if (y.cause(1) > 0) {
                reasons[y.cause(1)]++;
            }
        }
    }

    private void layConfig() {
        int p = mood == 6 ? 8 : 1 + random.nextInt(8);
        int b = mood == 6 ? 32 : Math.max(2, Math.min(32, 2 * p + random.nextInt(random.nextBoolean() ? 4 : 20)));
        String text = "p" + p + ";b" + b + ";f" + random.nextInt(256) + "," + random.nextInt(256) + ";l"
                + (1 + random.nextInt(20)) + ";";
        for (int i = 0; i < text.length(); i++) {
            both("write", text.charAt(i));
        }
        both("lay");
    }

    private boolean both(String name, int... args) {
        int got = Check.call(x, name, args);
        int due = Check.call(y, name, args);
        calls.add(name + Arrays.toString(args) + " = " + due);
        return agree(calls.get(calls.size() - 1), got, due);
    }

    private boolean agree(String what, int got, int due) {
        if (got == due) {
            return true;
        }
        if (shown < BAD_SHOWN) {
            shown++;
            System.out.println("after " + calls);
        }
        Check.same(what, got, due);
        return false;
    }

    private int someEnd() {
        return random.nextInt(60) == 0 ? random.nextInt(5) - 2 : random.nextInt(2);
    }

    private int someSegment() {
        int size = y.count(5);
        if (size == 0 || random.nextInt(40) == 0) {
            return random.nextInt(24) - 2;
        }
        return random.nextInt(3) != 0 ? 0 : random.nextInt(size);
    }

    private boolean step() {
        // An open, mostly undisturbed pair is where the long streams are; the moods differ in how
        // often they disturb it.
        int closed = (y.end(0, 0) == 0 ? 1 : 0) + (y.end(1, 0) == 0 ? 1 : 0);
        if (closed > 0 && random.nextInt(3) == 0) {
            int e = y.end(0, 0) == 0 ? 0 : 1;
            return both("open", random.nextInt(50) == 0 ? 2 : e, random.nextInt(3) == 0 ? 0 : 1);
        }
        int roll = random.nextInt(100);
        if (roll < 28) {
            return both("arrive", someSegment());
        }
        if (roll < 56) {
            int e = mood == 1 ? 0 : someEnd();
            return both("say", e, random.nextInt(80) == 0 ? random.nextInt(600) - 200 : random.nextInt(256));
        }
        if (roll < 74) {
            return mood == 2 && random.nextInt(4) != 0 ? both("say", 0, 7) : both("take", someEnd());
        }
        if (roll < 78) {
            return both("pass", random.nextInt(40) == 0 ? random.nextInt(130) - 10 : 1 + random.nextInt(8));
        }
        if (roll < 82) {
            return mood == 3 ? both("arrive", someSegment()) : both("lose", someSegment());
        }
        if (roll < 86) {
            return mood == 3 ? both("take", 1) : both("twice", someSegment());
        }
        if (roll < 90) {
            return both("drive", random.nextInt(10100) - 50, 1 + random.nextInt(mood == 4 ? 61 : 6));
        }
        if (roll < 92) {
            return both("cry", someEnd());
        }
        if (roll < 97 && (mood == 5 || random.nextInt(8) == 0)) {
            return both("leave", someEnd());
        }
        if (roll < 98 && random.nextInt(mood == 0 ? 2 : 10) == 0) {
            return both("quit", someEnd());
        }
        if (roll == 99 && random.nextInt(5) == 0) {
            return textCall();
        }
        return both("open", someEnd(), random.nextInt(3));
    }

    /** Long streams, so that the numbers wrap around and old segments seem to be new ones. */
    private boolean longStep() {
        if (y.end(0, 0) == 0 || y.end(1, 0) == 0) {
            return both("open", y.end(1, 0) == 0 ? 1 : 0, y.end(1, 0) == 0 ? 0 : 1);
        }
        if (y.end(1, 5) > y.end(1, 6) + random.nextInt(6)) {
            return both("take", 1);
        }
        if (y.end(0, 4) < 24 + random.nextInt(10) && y.end(0, 0) < 5) {
            return both("say", 0, random.nextInt(256));
        }
        int roll = random.nextInt(40);
        if (roll == 0 && calls.size() > 300) {
            return both("quit", random.nextInt(2));
        }
        if (roll == 1) {
            return both("twice", 0);
        }
        return roll < 4 ? both("pass", 1 + random.nextInt(3)) : both("drive", random.nextInt(10000), 60);
    }

    /** Connections that are opened again while segments of the one before are on the wire. */
    private boolean reopeningStep() {
        int roll = random.nextInt(40);
        int e = random.nextInt(2);
        if (y.end(e, 0) == 0 && roll < 30) {
            return both("open", e, random.nextInt(5) == 0 ? 1 - e : e);
        }
        int size = Math.max(1, y.count(5));
        if (roll == 0) {
            return both("quit", e);
        }
        if (roll < 3) {
            return both("leave", e);
        }
        if (roll < 16) {
            return both("say", e, random.nextInt(256));
        }
        if (roll < 20) {
            return both("take", e);
        }
        if (roll < 26 && size < 16) {
            return both("twice", random.nextInt(size));
        }
        return roll == 39 ? both("pass", 1 + random.nextInt(4)) : both("arrive", random.nextInt(size));
    }

    private boolean textCall() {
        switch (random.nextInt(4)) {
            case 0:
                return both("wipe");
            case 1:
                return both("lay");
            case 2:
                return both("fault");
            default:
                return both("write", random.nextInt(2) == 0 ? "pbfl0123456789,;".charAt(random.nextInt(16))
                        : random.nextInt(140));
        }
    }

    private boolean looksAlike() {
        boolean same = true;
        for (int what = -1; what <= 12 && same; what++) {
            same = agree("count " + what, x.count(what), y.count(what));
        }
        for (int i = -1; i <= 3 && same; i++) {
            same = agree("cause " + i, x.cause(i), y.cause(i));
        }
        for (int e = -1; e <= 2 && same; e++) {
            for (int what = -1; what <= 18 && same; what++) {
                same = agree("end " + e + ", " + what, x.end(e, what), y.end(e, what));
            }
            for (int i = -1; i <= 7 && same; i++) {
                same = agree("sample " + e + ", " + i, x.sample(e, i), y.sample(e, i));
            }
            for (int i = -2; i <= 4 && same; i++) {
                for (int what = -1; what <= 2 && same; what++) {
                    same = agree("span " + e + ", " + i + ", " + what, x.span(e, i, what), y.span(e, i, what));
                }
            }
            int near = Math.max(0, y.end(e, 1));
            for (int place = near - 2; place <= near + 36 && same; place++) {
                same = agree("known " + e + ", " + place, x.known(e, place), y.known(e, place));
            }
        }
        for (int i = -1; i <= y.count(5) && same; i++) {
            for (int what = -1; what <= 12 && same; what++) {
                same = agree("letter " + i + ", " + what, x.letter(i, what), y.letter(i, what));
            }
            for (int j = -1; j <= 8 && same; j++) {
                same = agree("byteOf " + i + ", " + j, x.byteOf(i, j), y.byteOf(i, j));
            }
        }
        if (random.nextInt(8) == 0) {
            for (int what = -1; what <= 6 && same; what++) {
                same = agree("calm " + what, x.calm(what), y.calm(what));
            }
        }
        return same;
    }
}
