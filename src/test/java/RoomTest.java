import java.lang.management.ManagementFactory;
import java.util.Random;

/** All calls of a run live in one room: no call makes an object, and a new object stays small. */
public final class RoomTest {
    private static final int MOST_BYTES_OF_AN_OBJECT = 20_000;

    public static void main(String[] args) {
        long warm = 0;
        for (int k = 0; k < 20; k++) {
            warm += calls(new StreamEnds(), new Random(k));
        }
        StreamEnds x = new StreamEnds();
        Random random = new Random(99);
        long before = allocated();
        warm += calls(x, random);
        long made = allocated() - before;
        // The measuring itself makes some hundred bytes.
        Check.same("bytes made by calls are few: " + made, made < 2000 ? 1 : 0, 1);
        before = allocated();
        x = new StreamEnds();
        made = allocated() - before;
        Check.same("a new object is small: " + made, made < MOST_BYTES_OF_AN_OBJECT ? 1 : 0, 1);
        Check.same("the calls did something", warm + x.count(0) != 0 ? 1 : 0, 1);
        Check.end("RoomTest");
    }

    private static long allocated() {
        return ((com.sun.management.ThreadMXBean) ManagementFactory.getThreadMXBean()).getCurrentThreadAllocatedBytes();
    }

    private static long calls(StreamEnds x, Random random) {
        long sum = 0;
        for (int k = 0; k < 30_000; k++) {
            int e = random.nextInt(2);
            switch (random.nextInt(24)) {
                case 0 -> sum += x.write(32 + random.nextInt(95));
                case 1 -> sum += random.nextInt(20) == 0 ? x.wipe() + x.lay() : x.fault();
                case 2, 3 -> sum += x.open(e, e);
                case 4, 5, 6, 7 -> sum += x.say(e, random.nextInt(256));
                case 8 -> sum += x.cry(e);
                case 9 -> sum += random.nextInt(9) == 0 ? x.leave(e) : random.nextInt(9) == 0 ? x.quit(e) : 0;
                case 10, 11 -> sum += x.take(e);
                case 12, 13, 14, 15 -> sum += x.arrive(0);
                case 16 -> sum += x.lose(0);
                case 17 -> sum += x.twice(0);
                case 18 -> sum += x.pass(1 + e);
                case 19 -> sum += x.drive(random.nextInt(10000), 6);
                case 20 -> sum += x.calm(random.nextInt(6));
                case 21 -> sum += x.end(e, random.nextInt(18)) + x.sample(e, 0) + x.known(e, 3);
                case 22 -> sum += x.span(e, -1, 0) + x.letter(0, random.nextInt(12)) + x.byteOf(0, 0);
                default -> sum += x.cause(e) + x.count(random.nextInt(12));
            }
        }
        return sum;
    }
}
