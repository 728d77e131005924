import java.io.IOException;
import java.lang.reflect.Method;
import java.lang.reflect.Modifier;
import java.nio.charset.StandardCharsets;
import java.nio.file.Files;
import java.nio.file.Path;
import java.util.ArrayList;
import java.util.Comparator;
import java.util.List;
import java.util.Set;
import java.util.TreeSet;
import java.util.regex.Matcher;
import java.util.regex.Pattern;
import java.util.stream.Stream;

/** What README.md says of how the class is used and how its tests are run holds as it is written there. */
public final class ReadmeTest {
    private static final Pattern BLOCK = Pattern.compile("```(\\w+)\\n(.*?)```", Pattern.DOTALL);
    private static final String PASSES = "public final class %s { public static void main(String[] a) { new StreamEnds(); } }";
    private static final String FAILS = "public final class %s { public static void main(String[] a) { System.exit(1); } }";
    private static final String IS_WRONG = "public final class %s { public static void main(String[] a) { nothing } }";

    private static String readme;

    public static void main(String[] args) throws Exception {
        readme = Files.readString(Path.of("README.md"));
        Path room = Files.createTempDirectory("readme");
        try {
            commands(copyOfTheProject(room.resolve("project")));
            names();
            everyCallIsNamed();
            theScript(room);
        } finally {
            remove(room);
        }
        Check.end("ReadmeTest");
    }

    private static void truth(String what, boolean holds) {
        Check.same("README.md: " + what, holds ? 1 : 0, 1);
    }

    private static void remove(Path room) throws IOException {
        try (Stream<Path> all = Files.walk(room)) {
            for (Path path : all.sorted(Comparator.reverseOrder()).toList()) {
                Files.delete(path);
            }
        }
    }

    private static void copy(Path from, Path to) throws IOException {
        Files.createDirectories(to.getParent());
        Files.copy(from, to);
    }

    private static Path copyOfTheProject(Path to) throws IOException {
        try (Stream<Path> all = Files.walk(Path.of("src"))) {
            for (Path path : all.filter(Files::isRegularFile).toList()) {
                copy(path, to.resolve(path));
            }
        }
        return to;
    }

    private static List<String> blocks(String kind) {
        List<String> found = new ArrayList<>();
        Matcher block = BLOCK.matcher(readme);
        while (block.find()) {
            if (block.group(1).equals(kind)) {
                found.add(block.group(2));
            }
        }
        return found;
    }

    /** Runs a command in a directory and answers its exit code; what it prints goes into a file there. */
    private static int run(Path directory, String command) throws IOException, InterruptedException {
        return new ProcessBuilder("sh", "-e", "-c", command).directory(directory.toFile()).redirectErrorStream(true)
                .redirectOutput(directory.resolve("printed.txt").toFile()).start().waitFor();
    }

    private static String printed(Path directory) throws IOException {
        return Files.readString(directory.resolve("printed.txt"), StandardCharsets.UTF_8);
    }

    /** The program is saved and the commands are run as they are written, the first ones of which print the text. */
    private static void commands(Path project) throws IOException, InterruptedException {
        Check.same("README.md: programs", blocks("java").size(), 1);
        Check.same("README.md: commands", blocks("sh").size(), 2);
        Check.same("README.md: what is printed", blocks("text").size(), 1);
        truth("the name of the program", readme.contains("a file `Demo.java`") && blocks("java").get(0).contains("class Demo "));
        Files.writeString(project.resolve("Demo.java"), blocks("java").get(0));
        Check.same("README.md: commands of the use", run(project, blocks("sh").get(0)), 0);
        truth("the program prints " + printed(project), printed(project).equals(blocks("text").get(0)));
        Check.same("README.md: commands of the tests", run(project, blocks("sh").get(1)), 0);
        truth("the tests that are run alone", printed(project).contains("TimingTest: ")
                && printed(project).contains("ReferenceTest: "));
    }

    /** Every test of the project is named, and whatever is named is there. */
    private static void names() throws IOException {
        Set<String> there = new TreeSet<>();
        try (Stream<Path> all = Files.list(Path.of("src/test/java"))) {
            all.forEach(path -> there.add(path.getFileName().toString().replace(".java", "")));
        }
        String tests = readme.substring(readme.indexOf("## Tests"));
        for (String name : there) {
            truth("it names " + name, tests.contains("`" + name + "`"));
        }
        Matcher named = Pattern.compile("`([A-Z]\\w+)`").matcher(tests);
        while (named.find()) {
            truth("there is " + named.group(1), there.contains(named.group(1)));
        }
        Set<String> inside = new TreeSet<>();
        for (Class<?> own : StreamEnds.class.getDeclaredClasses()) {
            inside.add(own.getSimpleName());
        }
        Set<String> told = new TreeSet<>();
        named = Pattern.compile("`([A-Z]\\w+)`").matcher(readme.substring(readme.indexOf("## Inside"), readme.indexOf("## Tests")));
        while (named.find()) {
            told.add(named.group(1));
        }
        truth("the classes inside, " + told, told.equals(inside));
    }

    private static void everyCallIsNamed() {
        String use = readme.substring(0, readme.indexOf("## Inside"));
        for (Method method : StreamEnds.class.getDeclaredMethods()) {
            if (Modifier.isPublic(method.getModifiers())) {
                truth("it names " + method.getName(), use.contains("`" + method.getName() + "()`"));
            }
        }
        for (String code : List.of("`BAD` (-1)", "`NO` (-2)", "`FULL` (-3)", "`NONE` (-4)")) {
            truth("it names " + code, use.contains(code));
        }
    }

    /** .ci/run on projects with one test of their own and one shared test, of which one fails. */
    private static void theScript(Path room) throws Exception {
        truth("it tells of .ci/run", readme.contains("\n    .ci/run\n") && Files.isExecutable(Path.of(".ci/run")));
        List<Thread> runs = new ArrayList<>();
        runs.add(script(room.resolve("a"), "all pass", PASSES, PASSES, true));
        runs.add(script(room.resolve("b"), "a test of the project fails", FAILS, PASSES, false));
        runs.add(script(room.resolve("c"), "a shared test fails", PASSES, FAILS, false));
        runs.add(script(room.resolve("d"), "a shared test does not compile", PASSES, IS_WRONG, false));
        runs.add(script(room.resolve("e"), "there is no shared test", PASSES, null, false));
        Thread broken = script(room.resolve("f"), "the class does not compile", PASSES, PASSES, false);
        Files.writeString(room.resolve("f/main/src/main/java/StreamEnds.java"), "public final class StreamEnds { nothing }");
        runs.add(broken);
        for (Thread run : runs) {
            run.start();
        }
        for (Thread run : runs) {
            run.join();
        }
        truth("each has ended as it should: " + ENDED, ENDED.size() == runs.size() && !ENDED.toString().contains("wrong"));
    }

    private static final List<String> ENDED = new ArrayList<>();

    private static Thread script(Path room, String title, String own, String shared, boolean passes) throws IOException {
        Path project = room.resolve("main");
        copy(Path.of(".ci/run"), project.resolve(".ci/run"));
        copy(Path.of("src/main/java/StreamEnds.java"), project.resolve("src/main/java/StreamEnds.java"));
        Files.createDirectories(project.resolve("src/test/java"));
        Files.createDirectories(room.resolve("shared/tests"));
        Files.writeString(project.resolve("src/test/java/OwnTest.java"), own.formatted("OwnTest"));
        if (shared != null) {
            Files.writeString(room.resolve("shared/tests/Shared.java"), shared.formatted("Shared"));
        }
        return new Thread(() -> {
            boolean right;
            try {
                right = run(project, "sh .ci/run") == 0 == passes;
            } catch (IOException | InterruptedException e) {
                right = false;
            }
            synchronized (ENDED) {
                ENDED.add(title + (right ? "" : " (wrong)"));
            }
        });
    }
}
