import java.lang.reflect.InvocationTargetException;
import java.lang.reflect.Method;
import java.lang.reflect.Modifier;
import java.util.ArrayList;
import java.util.Comparator;
import java.util.List;
import java.util.Random;
import java.util.Set;

/**
 * LANGUAGE.md, rule 7: no call ever throws or fails to end, for any arguments in any state, also when the object has got
 * its 512 calls. No answer is below NONE.
 */
public final class NeverThrowsTest {
    private static final int RUNS = 150, CALLS = 4000, SECONDS = 120;
    private static final Set<String> RARE = Set.of("quit", "lay", "wipe", "leave", "lose", "drive");
    private static final int[] EDGES = {Integer.MIN_VALUE, Integer.MIN_VALUE + 1, -257, -2, -1, 0, 1, 2, 5, 6, 7, 8, 11, 12, 16, 17,
        18, 19, 20, 21, 31, 32, 33, 59, 60, 61, 63, 64, 65, 100, 101, 126, 127, 128, 199, 200, 255, 256, 9999, 10000,
        Integer.MAX_VALUE - 1, Integer.MAX_VALUE};

    public static void main(String[] args) throws InterruptedException {
        Thread worker = new Thread(NeverThrowsTest::play);
        worker.setDaemon(true);
        worker.start();
        worker.join(SECONDS * 1000L);
        Check.same("all calls have ended", worker.isAlive() ? 0 : 1, 1);
        Check.end("NeverThrowsTest");
    }

    private static void play() {
        List<Method> methods = new ArrayList<>();
        for (Method method : StreamEnds.class.getDeclaredMethods()) {
            if (Modifier.isPublic(method.getModifiers())) {
                methods.add(method);
            }
        }
        methods.sort(Comparator.comparing(Method::getName));
        Check.same("methods", methods.size(), 24);
        int[] met = new int[11];
        for (int run = 0; run < RUNS; run++) {
            Random random = new Random(run);
            StreamEnds x = begun(run);
            boolean goesOn = true;
            for (int k = 0; k < CALLS && goesOn; k++) {
                goesOn = answers(x, some(methods, random), random, "run " + run + ", call " + k + ": ");
                met[Math.floorMod(x.end(0, 0), met.length)]++;
                met[Math.floorMod(x.end(1, 0), met.length)]++;
            }
        }
        for (int state = 0; state < met.length; state++) {
            Check.same("state " + state + " is met", met[state] > 0 ? 1 : 0, 1);
        }
    }

    /** What ends a connection or refuses calls is rare, so that all states are met. */
    private static Method some(List<Method> methods, Random random) {
        while (true) {
            Method method = methods.get(random.nextInt(methods.size()));
            if (!RARE.contains(method.getName()) || random.nextInt(20) == 0) {
                return method;
            }
        }
    }

    /** Some runs begin with a configuration at its edges, or in a state that calls at random seldom reach. */
    private static StreamEnds begun(int run) {
        StreamEnds x = new StreamEnds();
        String[] texts = {"", "p8;b32;f255,0;l20;", "p1;b2;f0,128;l1;", "p1;b32;", "p8;b16;f127,255;"};
        Check.write(x, texts[run % texts.length]);
        x.lay();
        if (run % 3 == 1) {
            Check.play("begun", x, States.RUNS[run % 11]);
        }
        return x;
    }

    private static boolean answers(StreamEnds x, Method method, Random random, String title) {
        Object[] values = new Object[method.getParameterCount()];
        for (int i = 0; i < values.length; i++) {
            values[i] = value(random, i);
        }
        String call = title + method.getName() + List.of(values);
        try {
            int answer = (Integer) method.invoke(x, values);
            Check.same(call + " answers less than NONE", answer >= StreamEnds.NONE ? 1 : 0, 1);
            return true;
        } catch (InvocationTargetException e) {
            Check.same(call + " throws " + e.getCause(), 1, 0);
            return false;
        } catch (IllegalAccessException e) {
            throw new IllegalStateException(e);
        }
    }

    private static int value(Random random, int i) {
        return switch (random.nextInt(8)) {
            case 0 -> EDGES[random.nextInt(EDGES.length)];
            case 1 -> random.nextInt();
            case 2 -> random.nextInt(300);
            default -> i == 0 ? random.nextInt(2) : random.nextInt(3);
        };
    }
}
