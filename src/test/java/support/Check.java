/** Counts the answers that are not as due, and ends the test by them. */
final class Check {
    private final String test;
    private int asked = 0;
    private int wrong = 0;

    Check(String test) {
        this.test = test;
    }

    void due(String call, long got, long want) {
        asked++;
        if (got != want) {
            wrong++;
            System.out.println(test + ": " + call + " answered " + got + ", due is " + want);
        }
    }

    boolean allRight() {
        return wrong == 0;
    }

    void end() {
        System.out.println(test + ": " + asked + " answers, " + wrong + " not as due");
        if (wrong != 0 || asked == 0) {
            System.exit(1);
        }
    }

    /** Puts a text behind THE TEXT, eight bytes a call. */
    static int writeText(OneWordWrong x, String text) {
        int size = -5;
        for (int at = 0; at < text.length(); at += 8) {
            int end = Math.min(text.length(), at + 8);
            long v = 0;
            for (int k = at; k < end; k++) {
                v = v << 8 | text.charAt(k);
            }
            size = x.write(end - at, v);
        }
        return size;
    }

    /** An object with that text LAID. */
    static OneWordWrong laid(String text) {
        OneWordWrong x = new OneWordWrong();
        writeText(x, text);
        if (x.lay() < 0) {
            throw new IllegalStateException("the test's own text has a FAULT at " + x.fault() + ": " + text);
        }
        return x;
    }

    static void say(OneWordWrong x, int s, int... words) {
        x.clear(s);
        for (int w : words) {
            x.word(s, w);
        }
    }
}
