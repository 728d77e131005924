import java.lang.reflect.Method;
import java.util.Arrays;

/**
 * Runs of calls as the document writes them, "open(0, 1) = 1; letter(0, 2) = 250; ..", each run on
 * a new object. A call may be repeated: "take(1) = 5 x 3;". Every wrong answer is printed.
 */
final class Check {
    private static int wrong = 0;
    private static int calls = 0;
    private static int callsOfRun = 0;

    private Check() {
    }

    /** A run that begins with the configuration of the document. */
    static void run(String title, String... rows) {
        callsOfRun = 0;
        runOn(title, new StreamEnds(), rows);
    }

    /** What an object answers after 512 calls is free, so a run that asks for more is a wrong one. */
    private static void runOn(String title, StreamEnds x, String... rows) {
        play(title, x, rows);
        same(title + ": calls of the run, " + callsOfRun, callsOfRun <= 512 ? 1 : 0, 1);
    }

    /** A run that begins when this text has been written and set up. */
    static void runWith(String text, String title, String... rows) {
        StreamEnds x = new StreamEnds();
        write(x, text);
        same(title + ": lay() of " + text, x.lay() > 0 ? 1 : 0, 1);
        callsOfRun = text.length() + 1;
        runOn(title, x, rows);
    }

    /** How many calls the last run had. */
    static int callsOfRun() {
        return callsOfRun;
    }

    static void write(StreamEnds x, String text) {
        for (int i = 0; i < text.length(); i++) {
            same("write " + text, x.write(text.charAt(i)) > 0 ? 1 : 0, 1);
        }
    }

    static void same(String what, long got, long due) {
        calls++;
        if (got != due) {
            wrong++;
            System.out.println(what + " answered " + got + ", due is " + due);
        }
    }

    static void play(String title, StreamEnds x, String... rows) {
        for (String row : rows) {
            for (String part : row.split(";")) {
                if (!part.isBlank()) {
                    playOne(title, x, part.trim());
                }
            }
        }
    }

    /** An endpoint says the bytes from, from + 1, .. to, each of which is one more pending byte. */
    static String says(int e, int from, int to) {
        StringBuilder calls = new StringBuilder();
        for (int k = from; k <= to; k++) {
            calls.append("say(").append(e).append(", ").append(k).append(") = ").append(k).append("; ");
        }
        return calls.toString();
    }

    private static void playOne(String title, StreamEnds x, String part) {
        String[] sides = part.split("=");
        String call = sides[0].trim();
        String[] due = sides[1].trim().split(" x ");
        int times = due.length > 1 ? Integer.parseInt(due[1].trim()) : 1;
        for (int k = 0; k < times; k++) {
            callsOfRun++;
            same(title + ": " + call, ask(x, call), Integer.parseInt(due[0].trim()));
        }
    }

    /** The answer to a call that is written as in the document. */
    static int ask(StreamEnds x, String call) {
        int open = call.indexOf('(');
        String inside = call.substring(open + 1, call.indexOf(')')).trim();
        int[] args = inside.isEmpty() ? new int[0]
                : Arrays.stream(inside.split(",")).map(String::trim).mapToInt(Integer::parseInt).toArray();
        return call(x, call.substring(0, open).trim(), args);
    }

    /** Calls a method of an object with the face of StreamEnds by its name. */
    static int call(Object x, String name, int... args) {
        Class<?>[] types = new Class<?>[args.length];
        Object[] values = new Object[args.length];
        for (int i = 0; i < args.length; i++) {
            types[i] = int.class;
            values[i] = args[i];
        }
        try {
            Method method = x.getClass().getDeclaredMethod(name, types);
            return (Integer) method.invoke(x, values);
        } catch (ReflectiveOperationException e) {
            throw new IllegalStateException("call " + name + Arrays.toString(args), e);
        }
    }

    /** Ends a test's main method. */
    static void end(String test) {
        System.out.println(test + ": " + calls + " answers looked at, " + wrong + " wrong");
        if (wrong != 0) {
            System.exit(1);
        }
    }
}
