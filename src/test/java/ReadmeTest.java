import java.io.IOException;
import java.lang.reflect.Method;
import java.lang.reflect.Modifier;
import java.net.URL;
import java.net.URLClassLoader;
import java.nio.file.Files;
import java.nio.file.Path;
import java.util.ArrayList;
import java.util.List;
import java.util.regex.Matcher;
import java.util.regex.Pattern;
import java.util.stream.Stream;
import javax.tools.ToolProvider;

/** README.md: its example compiles and each call answers as it says; every call and every test is named there. */
public final class ReadmeTest {
    private static final Check CHECK = new Check("ReadmeTest");
    private static final Pattern BLOCK = Pattern.compile("```java\n(.*?)```", Pattern.DOTALL);
    private static final Pattern STEP = Pattern.compile("(x\\.\\w+\\(.*\\)); +// (-?\\d+)(:.*)?");

    public static void main(String[] args) throws Exception {
        Path root = Path.of(args.length > 0 ? args[0] : ".");
        String readme = Files.readString(root.resolve("README.md"));
        example(readme);
        names(readme, root);
        CHECK.end();
    }

    private static void example(String readme) throws Exception {
        List<String> blocks = new ArrayList<>();
        for (Matcher m = BLOCK.matcher(readme); m.find(); ) blocks.add(m.group(1));
        CHECK.due("a way to tell a text, and a run of calls", blocks.size(), 2);
        if (blocks.size() != 2) return;
        StringBuilder source = new StringBuilder("public final class Example {\n" + blocks.get(0)
                + "public static long[][] run() {\njava.util.List<long[]> all = new java.util.ArrayList<>();\n");
        List<String> steps = new ArrayList<>();
        for (String line : blocks.get(1).split("\n")) {
            Matcher step = STEP.matcher(line);
            if (step.matches()) {
                steps.add(step.group(1));
                source.append("all.add(new long[] {" + step.group(1) + ", " + step.group(2) + "});\n");
            } else {
                source.append(line).append("\n");
            }
        }
        long[][] answers = run(source + "return all.toArray(new long[0][]);\n}\n}\n");
        CHECK.due("calls with an answer", answers.length, steps.size());
        CHECK.due("a run of some calls", steps.size() >= 20 ? 1 : 0, 1);
        for (int k = 0; k < answers.length; k++) CHECK.due("step " + k + " " + steps.get(k), answers[k][0], answers[k][1]);
    }

    private static long[][] run(String source) throws Exception {
        Path work = Files.createTempDirectory("readme");
        Path file = Files.writeString(work.resolve("Example.java"), source);
        int compiled = ToolProvider.getSystemJavaCompiler().run(null, null, null, "-proc:none", "-cp",
                System.getProperty("java.class.path"), "-d", work.toString(), file.toString());
        CHECK.due("the example compiles", compiled, 0);
        long[][] answers = {};
        if (compiled == 0) {
            try (URLClassLoader loader = new URLClassLoader(new URL[] {work.toUri().toURL()})) {
                answers = (long[][]) loader.loadClass("Example").getMethod("run").invoke(null);
            }
        }
        remove(work);
        return answers;
    }

    private static void remove(Path work) throws IOException {
        try (Stream<Path> inside = Files.list(work)) {
            for (Path one : inside.toList()) Files.delete(one);
        }
        Files.delete(work);
    }

    private static void names(String readme, Path root) throws IOException {
        for (Method m : OneWordWrong.class.getDeclaredMethods()) {
            boolean open = Modifier.isPublic(m.getModifiers());
            if (open) CHECK.due("README.md names " + m.getName(), readme.contains("`" + m.getName() + "(") ? 1 : 0, 1);
        }
        try (Stream<Path> tests = Files.list(root.resolve("src/test/java"))) {
            for (Path one : tests.filter(p -> p.toString().endsWith("Test.java")).toList()) {
                String name = one.getFileName().toString().replace(".java", "");
                CHECK.due("README.md names " + name, readme.contains("`" + name + "`") ? 1 : 0, 1);
            }
        }
    }
}
