import java.io.IOException;
import java.nio.file.Files;
import java.nio.file.Path;
import java.util.ArrayList;
import java.util.List;
import java.util.stream.Collectors;
import java.util.stream.Stream;
import javax.tools.ToolProvider;

/**
 * Tests the tests, by hand: `java src/test/mutants/Mutants.java [a part of names]` breaks the class in one place after the
 * other, as mutants.txt tells (-: what stands there, +: what comes instead, \n: a new line), and names each break that no
 * test of boundary cases sees. A break whose place is gone from the class is named too.
 */
public final class Mutants {
    private static final List<String> TESTS = List.of("EdgesOfTextsTest", "EdgesOfSentencesTest", "EdgesOfMendsTest",
            "EdgesOfKeptTest", "RefusedCallsTest");

    private record Mutant(String name, String old, String instead) {
    }

    public static void main(String[] args) throws IOException {
        Path root = Path.of("").toAbsolutePath();
        Path work = Files.createTempDirectory("mutants");
        String source = Files.readString(root.resolve("src/main/java/OneWordWrong.java"));
        Path tests = compileTests(root, work);
        String part = args.length > 0 ? args[0] : "";
        List<Mutant> all = read(root.resolve("src/test/mutants/mutants.txt")).stream()
                .filter(m -> m.name().contains(part)).collect(Collectors.toList());
        List<String> unseen = all.parallelStream().map(m -> tell(m, source, root, work.resolve("m" + all.indexOf(m)), tests))
                .filter(told -> !told.isEmpty()).collect(Collectors.toList());
        unseen.forEach(System.out::println);
        System.out.println(all.size() + " breaks, " + unseen.size() + " not seen");
        System.exit(unseen.isEmpty() ? 0 : 1);
    }

    private static List<Mutant> read(Path path) throws IOException {
        List<Mutant> all = new ArrayList<>();
        String name = "";
        String old = "";
        for (String line : Files.readAllLines(path)) {
            String rest = line.length() < 2 ? "" : line.substring(2).replace("\\n", "\n");
            if (line.startsWith("#")) name = rest;
            if (line.startsWith("-")) old = rest;
            if (line.startsWith("+")) all.add(new Mutant(name, old, rest));
        }
        return all;
    }

    private static Path compileTests(Path root, Path work) throws IOException {
        Path to = Files.createDirectory(work.resolve("tests"));
        List<String> line = new ArrayList<>(List.of("-nowarn", "-d", to.toString(), "-cp", to.toString()));
        line.add(root.resolve("src/main/java/OneWordWrong.java").toString());
        TESTS.forEach(t -> line.add(root.resolve("src/test/java/" + t + ".java").toString()));
        try (Stream<Path> support = Files.list(root.resolve("src/test/java/support"))) {
            support.forEach(p -> line.add(p.toString()));
        }
        if (ToolProvider.getSystemJavaCompiler().run(null, null, null, line.toArray(new String[0])) != 0) {
            throw new IOException("the tests do not compile");
        }
        return to;
    }

    /** What is to be told of a break: nothing, if a test sees it. */
    private static String tell(Mutant m, String source, Path root, Path own, Path tests) {
        int at = source.indexOf(m.old());
        if (at < 0) {
            return "GONE   " + m.name();
        }
        try {
            Files.createDirectory(own);
            Path file = own.resolve("OneWordWrong.java");
            Files.writeString(file, source.substring(0, at) + m.instead() + source.substring(at + m.old().length()));
            if (ToolProvider.getSystemJavaCompiler().run(null, null, null, "-nowarn", "-d", own.toString(), file.toString()) != 0) {
                return "NO CODE " + m.name();
            }
            for (String test : TESTS) {
                if (fails(test, own + ":" + tests, root)) return "";
            }
            return "UNSEEN " + m.name();
        } catch (IOException | InterruptedException e) {
            return "STOPPED " + m.name() + ": " + e;
        }
    }

    private static boolean fails(String test, String classes, Path root) throws IOException, InterruptedException {
        Process p = new ProcessBuilder("java", "-XX:TieredStopAtLevel=1", "-cp", classes, test, root.toString())
                .redirectErrorStream(true).redirectOutput(ProcessBuilder.Redirect.DISCARD).start();
        return p.waitFor() != 0;
    }
}
