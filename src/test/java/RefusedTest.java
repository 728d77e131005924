import java.util.ArrayList;
import java.util.List;

/**
 * "A call that returns an error code changes nothing", nor does a call that only looks: each such
 * call is made in many states, and what can be looked at then, and what a run of calls answers
 * afterwards, is as in an object that has not got the call.
 */
public final class RefusedTest {
    private static final int[] ENDS = {Integer.MIN_VALUE, -1, 0, 1, 2, Integer.MAX_VALUE};
    private static final int[] INDEXES = {Integer.MIN_VALUE, -1, 0, 5, 19, 20, Integer.MAX_VALUE};
    private static final String AFTERWARDS = "open(0, 1); open(1, 0); arrive(0); say(0, 9); say(1, 8); arrive(0); drive(5, 20);"
            + "take(0); take(1); cry(0); leave(0); pass(7); drive(77, 40); write(112); fault(); say(1, 5); leave(1);"
            + "drive(1234, 60); take(1); quit(1); drive(99, 9);";

    private static final List<String> LOOKS = new ArrayList<>();
    private static final List<String> CHANGES = new ArrayList<>();
    private static final int[] refused = new int[5];

    public static void main(String[] args) {
        collectLooks();
        collectChanges();
        for (String run : states()) {
            looksChangeNothing(run);
            errorsChangeNothing(run);
        }
        Check.same("BAD was met", refused[1] > 0 ? 1 : 0, 1);
        Check.same("NO was met", refused[2] > 0 ? 1 : 0, 1);
        Check.same("FULL was met", refused[3] > 0 ? 1 : 0, 1);
        Check.same("NONE was met", refused[4] > 0 ? 1 : 0, 1);
        Check.end("RefusedTest");
    }

    private static List<String> states() {
        List<String> runs = new ArrayList<>(List.of(States.RUNS));
        runs.addAll(List.of(States.FULL_PENDING));
        runs.addAll(List.of(States.RELEASING));
        runs.addAll(List.of(States.USED));
        runs.addAll(List.of(States.FULL_WIRE));
        runs.add(States.HOLDING);
        runs.add(States.FULL_TEXT);
        runs.add(States.laid("p1;b20;", 1) + States.RICH);
        runs.add("write(98) = 1; write(55) = 2; write(59) = 3;" + States.HOLDING);
        return runs;
    }

    private static void collectLooks() {
        for (int e : ENDS) {
            for (int i : new int[] {Integer.MIN_VALUE, -1, 0, 1, 16, 17, 18, Integer.MAX_VALUE}) {
                LOOKS.add("end(" + e + ", " + i + ")");
                LOOKS.add("sample(" + e + ", " + i + ")");
                LOOKS.add("known(" + e + ", " + i + ")");
                LOOKS.add("letter(" + e + ", " + i + ")");
                LOOKS.add("byteOf(" + e + ", " + i + ")");
                LOOKS.add("span(" + e + ", " + i + ", 0)");
                LOOKS.add("span(" + e + ", " + i + ", 1)");
                LOOKS.add("span(" + e + ", " + i + ", 2)");
            }
        }
        for (int what : new int[] {Integer.MIN_VALUE, -1, 0, 1, 2, 3, 4, 5, 6, 11, 12, Integer.MAX_VALUE}) {
            LOOKS.add("calm(" + what + ")");
            LOOKS.add("cause(" + what + ")");
            LOOKS.add("count(" + what + ")");
        }
        LOOKS.add("fault()");
    }

    private static void collectChanges() {
        for (int letter : new int[] {Integer.MIN_VALUE, -1, 31, 32, 126, 127, Integer.MAX_VALUE}) {
            CHANGES.add("write(" + letter + ")");
        }
        CHANGES.add("lay()");
        for (int e : ENDS) {
            for (int kind : new int[] {Integer.MIN_VALUE, -1, 0, 1, 2, Integer.MAX_VALUE}) {
                CHANGES.add("open(" + e + ", " + kind + ")");
            }
            for (int b : new int[] {Integer.MIN_VALUE, -1, 0, 255, 256, Integer.MAX_VALUE}) {
                CHANGES.add("say(" + e + ", " + b + ")");
            }
            CHANGES.add("cry(" + e + ")");
            CHANGES.add("leave(" + e + ")");
            CHANGES.add("quit(" + e + ")");
            CHANGES.add("take(" + e + ")");
        }
        for (int i : INDEXES) {
            CHANGES.add("arrive(" + i + ")");
            CHANGES.add("lose(" + i + ")");
            CHANGES.add("twice(" + i + ")");
        }
        for (int n : new int[] {Integer.MIN_VALUE, -1, 0, 1, 60, 61, 100, 101, Integer.MAX_VALUE}) {
            CHANGES.add("pass(" + n + ")");
            CHANGES.add("drive(0, " + n + ")");
            CHANGES.add("drive(-1, " + n + ")");
            CHANGES.add("drive(10000, " + n + ")");
        }
    }

    private static StreamEnds played(String run) {
        StreamEnds x = new StreamEnds();
        Check.play("RefusedTest", x, run);
        return x;
    }

    private static void looksChangeNothing(String run) {
        StreamEnds x = played(run);
        String before = Look.at(x);
        for (String call : LOOKS) {
            Check.ask(x, call);
        }
        Check.same("a call that looks changes something after " + run, before.equals(Look.at(x)) ? 1 : 0, 1);
        goesOnAlike(x, played(run), "calls that look", run);
    }

    private static void errorsChangeNothing(String run) {
        StreamEnds twin = played(run);
        String before = Look.at(twin);
        StreamEnds x = played(run);
        for (String call : CHANGES) {
            int answer = Check.ask(x, call);
            if (answer >= 0) {
                x = played(run);
                continue;
            }
            refused[-answer]++;
            Check.same(call + " changes something after " + run, before.equals(Look.at(x)) ? 1 : 0, 1);
        }
        goesOnAlike(x, twin, "refused calls", run);
    }

    private static void goesOnAlike(StreamEnds x, StreamEnds twin, String after, String run) {
        for (String call : AFTERWARDS.split(";")) {
            Check.same(call + " after " + after + " and " + run, Check.ask(x, call), Check.ask(twin, call));
        }
        Check.same("what is seen after " + after + " and " + run, Look.at(x).equals(Look.at(twin)) ? 1 : 0, 1);
    }
}
