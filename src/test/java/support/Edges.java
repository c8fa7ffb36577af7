import java.io.IOException;
import java.nio.file.Files;
import java.nio.file.Path;
import java.util.Set;
import java.util.TreeSet;

/**
 * Tests of sentences of the document that name a boundary case: each begins by its promise and the document's own
 * words, which must stand there, and has answers of its own.
 */
final class Edges {
    /** Stands for a promise's number where the sentence is one of the Terms. */
    static final int TERMS = 0;
    private static final int LAST_PROMISE = 22;

    private final String test;
    /** The document with all blanks alike; null where it can't be read. */
    private final String document;
    private final Set<Integer> promises = new TreeSet<>();
    private String now = "";
    private int sentences = 0;
    private int askedOfThis = 0;
    private int asked = 0;
    private int wrong = 0;

    Edges(String test, String[] args) {
        this.test = test;
        this.document = read(Path.of(args.length > 0 ? args[0] : ".", "..", "shared", "DOC.md"));
    }

    private static String read(Path path) {
        try {
            return Files.readString(path).replaceAll("\\s+", " ");
        } catch (IOException e) {
            System.out.println("the document is not at " + path + ": its words are not looked for");
            return null;
        }
    }

    /** Runs tests one by one, so that one that throws does not keep the others from being run. */
    void run(Runnable... tests) {
        for (Runnable one : tests) {
            try {
                one.run();
            } catch (RuntimeException | Error e) {
                fail("threw " + e);
            }
        }
    }

    /** Begins the test of one sentence. */
    void of(int promise, String words) {
        endSentence();
        now = (promise == TERMS ? "Terms" : "Promise " + promise) + " \"" + words + "\": ";
        sentences++;
        promises.add(promise);
        if (document != null && !sectionOf(promise).contains(words)) {
            fail("these words do not stand there");
        }
    }

    private String sectionOf(int promise) {
        if (promise == TERMS) {
            return document.substring(0, document.indexOf("## Promise 1:"));
        }
        int start = document.indexOf("## Promise " + promise + ":");
        String next = promise == LAST_PROMISE ? "## Not promised" : "## Promise " + (promise + 1) + ":";
        return document.substring(start, document.indexOf(next));
    }

    void due(String call, long got, long want) {
        asked++;
        askedOfThis++;
        if (got != want) {
            fail(call + " answered " + got + ", due is " + want);
        }
    }

    void dueAlike(String call, String got, String want) {
        asked++;
        askedOfThis++;
        if (!got.equals(want)) {
            fail(call + " answered " + got + ", due is " + want);
        }
    }

    private void fail(String what) {
        wrong++;
        System.out.println(test + ": " + now + what);
    }

    private void endSentence() {
        if (sentences > 0 && askedOfThis == 0) {
            fail("nothing was asked");
        }
        askedOfThis = 0;
    }

    /** Ends the test: each of these promises must have had a sentence. */
    void end(int firstPromise, int lastPromise) {
        endSentence();
        now = "";
        for (int p = firstPromise; p <= lastPromise; p++) {
            if (!promises.contains(p)) {
                fail("no sentence of promise " + p);
            }
        }
        System.out.println(test + ": " + sentences + " sentences, " + asked + " answers, " + wrong + " not as due");
        if (wrong != 0) {
            System.exit(1);
        }
    }
}
