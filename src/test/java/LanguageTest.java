import java.io.IOException;
import java.net.URI;
import java.nio.file.Files;
import java.nio.file.Path;
import javax.tools.JavaFileObject;
import javax.tools.SimpleJavaFileObject;

/** src/main/java/StreamEnds.java keeps to LANGUAGE.md; and what Language looks for, it finds where it is broken. */
public final class LanguageTest {
    private static final Path MAIN = Path.of("src/main/java/StreamEnds.java");

    public static void main(String[] args) throws IOException {
        Language main = new Language(source(Files.readString(MAIN)));
        for (String fault : main.faults) {
            Check.same("rule " + fault, 0, 1);
        }
        System.out.println("deepest calls: " + main.deepest + ", classes: " + main.classes);
        signsAreAscii();
        aSourceWithoutFault();
        brokenRules();
        Check.end("LanguageTest");
    }

    private static JavaFileObject source(String text) {
        return new SimpleJavaFileObject(URI.create("string:///StreamEnds.java"), JavaFileObject.Kind.SOURCE) {
            @Override
            public CharSequence getCharContent(boolean ignoreEncodingErrors) {
                return text;
            }
        };
    }

    private static void signsAreAscii() throws IOException {
        for (byte sign : Files.readAllBytes(MAIN)) {
            if (sign < 1) {
                Check.same("rule 4: a sign that is not 1 to 127", sign, 1);
            }
        }
    }

    private static void aSourceWithoutFault() throws IOException {
        String text = inClass("private int a; private static final int B = 1; public int wipe() { return a + B; }");
        Language clean = new Language(source(text));
        Check.same("a source without fault: " + clean.faults, clean.faults.size(), 0);
    }

    private static String inClass(String members) {
        return "public final class StreamEnds { " + members + " }";
    }

    private static void broken(String fault, String... sources) throws IOException {
        for (String text : sources) {
            Language found = new Language(source(text));
            boolean told = false;
            boolean compiles = true;
            for (String other : found.faults) {
                told |= other.startsWith(fault);
                compiles &= !other.startsWith("it does not compile");
            }
            Check.same(fault + " is found in " + text + ": " + found.faults, told && compiles ? 1 : 0, 1);
        }
    }

    private static void member(String fault, String... members) throws IOException {
        for (String one : members) {
            broken(fault, inClass(one));
        }
    }

    private static void brokenRules() throws IOException {
        broken("1: a package line", "package a; " + inClass(""));
        broken("1: more than one class in the file", inClass("") + " final class Other { }");
        broken("1: the class is not public and final", "public class StreamEnds { }", "final class StreamEnds { }");
        member("1: a visible field", "int a;", "public static final int MORE = 1;", "protected int a;");
        member("1: a visible method", "int more() { return 1; }", "public int more() { return 1; }");
        member("1: a visible class inside", "public static class A { }", "protected static class A { }");
        member("1: a method with the name of a public one", "private int wipe() { return 1; }",
                "private static class A { int lose() { return 1; } }");
        member("2: an inner class is not static", "private class A { }");
        member("2: a local or anonymous class", "private void a() { class B { } }", "private Object a = new Object() { };");
        member("2: a lambda", "private Runnable a = () -> { };");
        member("2: a method reference", "private Runnable a = StreamEnds::b; private static void b() { }");
        member("3: the type of a variable", "private Object a;", "private String[] a;", "private int[][][] a;",
                "private boolean[][] a;", "private java.util.Map<Integer, Integer> a;", "private Long a;");
        member("3: the type of an answer", "private Object a() { return null; }");
        broken("4: an import", "import java.util.Random; " + inClass(""));
        member("4: the library's", "private long a = System.nanoTime();", "private double a = Math.random();",
                "private int a = Math.addExact(1, 2);", "private int a = new java.util.Random().nextInt();",
                "private void a() { System.out.println(1); }");
        member("5: static state", "private static int a;");
        member("5: a static field of another kind", "private static final StreamEnds A = new StreamEnds();");
        member("5: an initialiser block", "private static final int A; static { A = 1; }", "private int a; { a = 1; }");
        member("6: throw", "private void a() { throw new IllegalStateException(); }");
        member("6: throws", "private void a() throws Exception { }");
        member("6: try", "private void a() { try { a(); } finally { } }");
        member("6: catch", "private void a() { try { a(); } catch (RuntimeException e) { } }");
        member("6: assert", "private void a() { assert true; }");
        member("6: synchronized", "private void a() { synchronized (this) { } }");
        member("6: an own equals, hashCode or toString", "public String toString() { return null; }",
                "private static class A { public int hashCode() { return 1; } }");
        member("6: == between texts", "private boolean a(String b, String c) { return b == c; }");
        member("6: a cast between classes", "private String a(Object b) { return (String) b; }");
        member("8: recursion", "private int a(int n) { return a(n - 1); }",
                "private int a() { return b(); } private int b() { return a(); }");
        member("9: a loop without an end", "private void a() { while (true) { } }", "private void a() { for (;;) { } }",
                "private void a() { do { } while (true); }", "private void a() { for (int i = 0; true; i++) { } }");
        member("10: texts joined by +", "private String a(int b) { return \"b\" + b; }",
                "private void a(String b) { b += 1; }");
        lengths();
        member("12: a method makes an object", "private void a() { new StreamEnds(); }");
        member("12: a method makes an array", "private void a() { int[] b = new int[3]; }");
        member("12: an object hands itself out", "private StreamEnds a; public StreamEnds() { a = this; }",
                "private static class A { A(StreamEnds b) { } } private A a = new A(this);");
    }

    private static void lengths() throws IOException {
        member("11: a method of more than sixty lines", "private void a() {" + "\n".repeat(60) + "}");
        member("11: more than seven parameters",
                "private void a(int b, int c, int d, int e, int f, int g, int h, int i) { }");
        StringBuilder fields = new StringBuilder();
        StringBuilder classes = new StringBuilder();
        StringBuilder calls = new StringBuilder("private void a0() { }");
        for (int k = 1; k <= 21; k++) {
            fields.append("private int a").append(k).append(";");
            classes.append("private static class A").append(k).append(" { }");
            calls.append("private void a").append(k).append("() { a").append(k - 1).append("(); }");
        }
        member("11: more than twenty fields", fields.toString());
        member("11: more than twelve classes", classes.toString());
        member("11: calls go more than eight deep", calls.toString());
    }
}
