import java.lang.reflect.Constructor;
import java.lang.reflect.Field;
import java.lang.reflect.Method;
import java.lang.reflect.Modifier;
import java.util.Arrays;
import java.util.Set;
import java.util.TreeSet;

/** "The public face": what it has and nothing else; and an object, which is used for at most 512 calls. */
public final class FaceTest {
    private static final Set<String> METHODS = Set.of("write(int letter)", "wipe()", "fault()", "lay()",
            "open(int e, int kind)", "say(int e, int b)", "cry(int e)", "leave(int e)", "quit(int e)", "take(int e)",
            "arrive(int i)", "lose(int i)", "twice(int i)", "pass(int n)", "drive(int z, int n)", "calm(int what)",
            "end(int e, int what)", "sample(int e, int i)", "span(int e, int i, int what)", "known(int e, int place)",
            "letter(int i, int what)", "byteOf(int i, int j)", "cause(int i)", "count(int what)");

    public static void main(String[] args) throws IllegalAccessException {
        theClass();
        constants();
        constructor();
        methods();
        classesInside();
        fiveHundredAndTwelveCalls();
        objectsDoNotKnowEachOther();
        Check.end("FaceTest");
    }

    private static void truth(String what, boolean holds) {
        Check.same(what, holds ? 1 : 0, 1);
    }

    private static boolean isSeen(int modifiers) {
        return !Modifier.isPrivate(modifiers);
    }

    private static void theClass() {
        truth("public final class StreamEnds", StreamEnds.class.getModifiers() == (Modifier.PUBLIC | Modifier.FINAL));
        truth("without a package", StreamEnds.class.getPackageName().isEmpty());
        truth("it extends nothing", StreamEnds.class.getSuperclass() == Object.class);
        truth("it implements nothing", StreamEnds.class.getInterfaces().length == 0);
    }

    private static void constants() throws IllegalAccessException {
        Set<String> seen = new TreeSet<>();
        for (Field field : StreamEnds.class.getDeclaredFields()) {
            if (isSeen(field.getModifiers())) {
                seen.add(Modifier.toString(field.getModifiers()) + " " + field.getType() + " " + field.getName() + " = "
                        + field.getInt(null));
            }
        }
        truth("the constants and no other field: " + seen, seen.equals(Set.of("public static final int BAD = -1",
                "public static final int NO = -2", "public static final int FULL = -3", "public static final int NONE = -4")));
    }

    private static void constructor() {
        Constructor<?>[] all = StreamEnds.class.getDeclaredConstructors();
        truth("public StreamEnds()", all.length == 1 && all[0].getModifiers() == Modifier.PUBLIC
                && all[0].getParameterCount() == 0 && all[0].getExceptionTypes().length == 0);
    }

    private static void methods() {
        Set<String> due = new TreeSet<>();
        for (String method : METHODS) {
            due.add("public int " + method.replaceAll("int \\w+", "int"));
        }
        Set<String> seen = new TreeSet<>();
        for (Method method : StreamEnds.class.getDeclaredMethods()) {
            if (isSeen(method.getModifiers()) && !method.isSynthetic()) {
                String types = Arrays.stream(method.getParameterTypes()).map(Class::getName).reduce((a, b) -> a + ", " + b)
                        .orElse("");
                seen.add(Modifier.toString(method.getModifiers()) + " " + method.getReturnType() + " " + method.getName() + "("
                        + types + ")");
            }
        }
        Check.same("methods of the face", due.size(), 24);
        truth("the methods and no other one: " + seen, seen.equals(due));
    }

    private static void classesInside() {
        for (Class<?> inner : StreamEnds.class.getDeclaredClasses()) {
            int how = inner.getModifiers();
            truth("private or package-visible and static: " + inner, Modifier.isStatic(how) && !Modifier.isPublic(how)
                    && !Modifier.isProtected(how));
        }
    }

    /** 5 calls open the connection, and each byte takes 4. */
    private static void fiveHundredAndTwelveCalls() {
        StringBuilder run = new StringBuilder(States.OPEN);
        int bytes = (512 - 5 - 3) / 4;
        for (int k = 1; k <= bytes; k++) {
            run.append("say(0, ").append(k).append(") = 1; arrive(0) = 1; take(1) = ").append(k).append("; arrive(0) = 1;");
        }
        run.append("end(0, 1) = ").append(bytes + 1).append("; end(1, 6) = ").append(bytes + 1)
                .append("; count(7) = ").append(3 + 2 * bytes).append(";");
        Check.run("An object is used for at most 512 calls", run.toString());
        Check.same("so many calls", Check.callsOfRun(), 512);
    }

    /** Two objects get the same calls in turn, and a third one gets none of them. */
    private static void objectsDoNotKnowEachOther() {
        String[] calls = ("write(112); open(1, 0); open(0, 1); arrive(0); arrive(0); arrive(0); say(0, 7); say(1, 8); cry(0);"
                + "pass(4); arrive(2); arrive(0); drive(5, 60); take(0); take(1); leave(0); drive(77, 60); calm(5)").split(";");
        StreamEnds first = new StreamEnds();
        StreamEnds second = new StreamEnds();
        StreamEnds third = new StreamEnds();
        for (String call : calls) {
            Check.same("the same call to two objects: " + call, Check.ask(first, call), Check.ask(second, call));
        }
        truth("two objects after the same calls", Look.at(first).equals(Look.at(second)));
        truth("the calls changed something", !Look.at(first).equals(Look.at(third)));
        truth("an object that got none of them is as a new one", Look.at(third).equals(Look.at(new StreamEnds())));
    }
}
