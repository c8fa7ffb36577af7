import java.io.IOException;
import java.nio.file.Files;
import java.nio.file.Path;

/** The rules of ../shared/LANGUAGE.md that a look at the source can test, and whether the look sees what breaks them. */
public final class LanguageTest {
    private static final Check CHECK = new Check("LanguageTest");
    /** A rule's number, and what breaks it inside a class that else keeps to the rules. */
    private static final String[][] BREAKS = {
        {"1", "int some() { return 0; }"},
        {"1", "int open = 0;"},
        {"1", "public static int OPEN = 0;"},
        {"1", "private int ask(long a) { return 0; }"},
        {"1", "private static final class In { int ask(long a) { return 0; } }"},
        {"2", "private class In { }"},
        {"2", "public static class In { }"},
        {"2", "private int f() { class In { } return 0; }"},
        {"2", "private static class In { } private In f() { return new In() { }; }"},
        {"2", "private interface In { int g(); } private In f() { return () -> 1; }"},
        {"2", "private interface In { int g(); } private static int g() { return 1; } private In f() { return A::g; }"},
        {"3", "private double part = 0;"},
        {"3", "private final int[][][] rows = new int[1][1][1];"},
        {"3", "private static class In { } private final In[][] rows = new In[1][1];"},
        {"3", "private String text = null;"},
        {"3", "private Object any = null;"},
        {"3", "private boolean f() { return \"a\".isEmpty(); }"},
        {"4", "private int f() { return Math.addExact(1, 2); }"},
        {"4", "private long f() { return System.nanoTime(); }"},
        {"4", "private void f(int[] row) { java.util.Arrays.sort(row); }"},
        {"4", "private int f() { return hashCode(); }"},
        {"4", "private void f() { new Thread(); }"},
        {"4", "@Deprecated private void f() { }"},
        {"5", "private static int open = 0;"},
        {"5", "private static final int[] ROW = new int[3];"},
        {"5", "private static final int[] ROW = {1, 2}; private void f() { ROW[0] = 1; }"},
        {"5", "private static final int[] ROW = {1, 2}; private void f() { ROW[0]++; }"},
        {"5", "private static final int[] ROW = {1, 2}; private void f() { ROW[0] += 2; }"},
        {"5", "static { }"},
        {"6", "private void f() { throw null; }"},
        {"6", "private void f() { try { f(); } finally { } }"},
        {"6", "private void f() { synchronized (this) { } }"},
        {"6", "private synchronized void f() { }"},
        {"6", "private void f() { assert 1 > 0; }"},
        {"6", "private static class In { } private boolean f(In a) { return a instanceof In; }"},
        {"6", "private static class In { } private static class Sub extends In { } private Sub f(In a) { return (Sub) a; }"},
        {"7", "private int f(int a, int b) { return a / b; }"},
        {"7", "private int f(int a, int b) { return b == 1 ? 0 : a % b; }"},
        {"7", "private int f(int a, int b) { a /= b; return a; }"},
        {"7", "private int[] f(int n) { return new int[n]; }"},
        {"8", "private int f(int n) { return n > 0 ? f(n - 1) : 0; }"},
        {"8", "private int f(int n) { return g(n); } private int g(int n) { return f(n); }"},
        {"8", "private abstract static class In { abstract int g(In a); } private static class Sub extends In { int g(In a) { return a.g(a); } }"},
        {"8", "private interface In { int g(In a); } private static class Sub implements In { public int g(In a) { return a.g(a); } }"},
        {"9", "private void f() { for (;;) { } }"},
        {"9", "private void f() { while (true) { } }"},
        {"9", "private void f(boolean on) { do { } while (on); }"},
        {"9", "private void f(int a, boolean on) { while (a < 3 || on) { } }"},
        {"11", "private void f(int a, int b, int c, int d, int e, int f, int g, int h) { }"},
        {"11", "private void f() {\n" + "\n".repeat(60) + "}"},
        {"11", chainOf(9)},
        {"11", fieldsOf(21)},
        {"11", classesOf(12)}};

    public static void main(String[] args) throws IOException {
        ourSource(Path.of(args.length > 0 ? args[0] : ".", "src/main/java/OneWordWrong.java"));
        CHECK.due("a plain class", Look.at("A", around("")).faults().size(), 0);
        String inOrder = "private static final int[] ROW = {1, 2}; private int f(int a, int b) { return b == 0 ? 0 : a / b + ROW[0] / 2; }"
                + chainOf(8) + fieldsOf(20) + classesOf(11);
        CHECK.due("what is just within the rules: " + Look.at("A", around(inOrder)).faults(), Look.at("A", around(inOrder)).faults().size(), 0);
        for (String[] one : BREAKS) {
            Look look = Look.at("A", around(one[1]));
            long seen = look.faults().stream().filter(f -> f.startsWith("rule " + one[0] + ",") || f.startsWith("rule " + one[0] + ":")).count();
            CHECK.due("rule " + one[0] + " is seen broken by " + one[1] + " " + look.faults(), seen > 0 ? 1 : 0, 1);
        }
        CHECK.end();
    }

    private static void ourSource(Path path) throws IOException {
        Look look = Look.at("OneWordWrong", Files.readString(path));
        look.faults().forEach(System.out::println);
        CHECK.due("faults of the source", look.faults().size(), 0);
        System.out.println("LanguageTest: " + look.classes() + " classes, calls go " + look.deepest() + " deep");
    }

    private static String around(String inside) {
        return "public final class A { public int ask(int a) { return a; } " + inside + " }";
    }

    /** Methods of which each calls the next. */
    private static String chainOf(int depth) {
        StringBuilder all = new StringBuilder("private int c" + depth + "() { return 0; } ");
        for (int k = 1; k < depth; k++) all.append("private int c" + k + "() { return c" + (k + 1) + "(); } ");
        return all.toString();
    }

    private static String fieldsOf(int n) {
        StringBuilder all = new StringBuilder();
        for (int k = 0; k < n; k++) all.append("private int field" + k + " = 0; ");
        return all.toString();
    }

    private static String classesOf(int n) {
        StringBuilder all = new StringBuilder();
        for (int k = 0; k < n; k++) all.append("private static final class In" + k + " { } ");
        return all.toString();
    }
}
