/**
 * "Of several the first; nothing changes then": each call that answers BAD, NO, FULL or NONE leaves an object that answers
 * as one that was never asked; and so does each call that only asks.
 */
public final class RefusedCallsTest {
    private static final int BAD = -1, NO = -2, FULL = -3, NONE = -4;
    private static final String GRAMMAR = "r0,1,2,1,0;w1,0,0,0;w1,1,0,1;w2,0,1,2;w2,1,1,3;w1,0,2,3;w3,0,3,4;r4,1,3,1,0;p0,2;p4,7;";
    private static Edges edges;

    private interface Call {
        long on(OneWordWrong x);
    }

    private interface State {
        OneWordWrong make();
    }

    public static void main(String[] args) {
        edges = new Edges("RefusedCallsTest", args);
        edges.run(
                RefusedCallsTest::ofGrammars, RefusedCallsTest::ofSentences, RefusedCallsTest::ofMends, RefusedCallsTest::ofKept,
                RefusedCallsTest::ofEmptyObjects);
        edges.end(2, 22);
    }

    // ---- the states

    /** All is as full as can be: 400 bytes, SENTENCE 2 with eight WORDS, twelve KEPT, sixty errors; 4, 5, 7 are empty. */
    private static OneWordWrong full() {
        OneWordWrong x = new OneWordWrong();
        String text = GRAMMAR + "p1,04;".repeat((400 - GRAMMAR.length()) % 5);
        Check.writeText(x, text + "p1,4;".repeat((400 - text.length()) / 5));
        x.lay();
        say(x, 0, 0, 3);
        say(x, 1, 0, 2);
        say(x, 2, 4, 3, 0, 2, 0, 2, 0, 2);
        say(x, 3, 4, 3);
        say(x, 6, 5);
        x.quote(6, 1);
        x.quote(0, 1);
        x.quote(2, 128);
        x.quote(5, 3);
        for (int k = 0; k < 12; k++) {
            x.keep(k % 4, (k + k / 4) % 4);
        }
        for (int k = 0; k < 60; k++) {
            x.err(k < 20 ? k % 4 : k % 2);
        }
        return x;
    }

    /** A TEXT with a FAULT behind what is LAID; one KEPT, one error. */
    private static OneWordWrong faulty() {
        OneWordWrong x = new OneWordWrong();
        Check.writeText(x, GRAMMAR);
        x.lay();
        say(x, 0, 0, 3);
        say(x, 1, 1, 3);
        x.quote(1, 255);
        x.keep(0, 1);
        x.err(2);
        Check.writeText(x, "p0,9;p3,0;w0,0,0,0;r0,1,1,0,0;w0,0,0");
        return x;
    }

    private static void say(OneWordWrong x, int s, int... words) {
        for (int w : words) {
            x.word(s, w);
        }
    }

    /** All that can be asked for, at last what THE TEXT tells when it is LAID; some 250 calls. */
    private static String answers(OneWordWrong x) {
        StringBuilder all = new StringBuilder();
        for (int what = 0; what < 6; what++) {
            all.append(x.count(what)).append(' ');
        }
        for (int c = 0; c < 5; c++) {
            all.append(x.price(c, false)).append(' ').append(x.price(c, true)).append(' ');
            all.append(x.gone(c, 1)).append(x.gone(c, 40)).append(' ');
        }
        for (int k = 0; k < 12; k++) {
            all.append(x.theirs(k)).append(' ');
        }
        all.append(x.kept(0)).append(' ').append(x.kept(1)).append(' ').append(x.kept(2)).append(' ');
        all.append(x.byRule(0)).append(' ').append(x.byRule(1)).append(' ').append(x.byRule(2)).append(' ');
        for (int s = 0; s < 8; s++) {
            all.append("/ ").append(x.trees(s, -1)).append(' ').append(x.least(s, true)).append(' ').append(x.bars(s)).append(' ');
            all.append(x.mend(s, -1, 0)).append(' ').append(x.mend(s, 0, 2)).append(' ').append(x.heaps(s, 0, 0)).append(' ');
            all.append(x.quote(s, 0)).append(' ').append(x.least(s, false)).append(' ');
            int size = x.clear(s);
            all.append(size).append(' ').append(x.quote(s, 0)).append(' ');
        }
        all.append("/ ").append(x.fault()).append(' ').append(x.lay()).append(' ').append(x.count(1)).append(' ');
        for (int c = 0; c < 5; c++) {
            all.append(x.price(c, true)).append(' ');
        }
        return all.append(x.wipe()).toString();
    }

    private static void due(String name, State state, Call call, long want) {
        edges.run(() -> {
            OneWordWrong x = state.make();
            edges.due(name, call.on(x), want);
            edges.dueAlike("all else behind " + name, answers(x), answers(state.make()));
        });
    }

    private static void onFull(String name, Call call, long want) {
        due(name, RefusedCallsTest::full, call, want);
    }

    private static void onFaulty(String name, Call call, long want) {
        due(name, RefusedCallsTest::faulty, call, want);
    }

    // ---- the calls

    private static void ofGrammars() {
        edges.of(2, "BAD; FULL.");
        onFull("write(0)", x -> x.write(0, 59), BAD);
        onFull("write(9)", x -> x.write(9, 59), BAD);
        onFull("write(1)", x -> x.write(1, 59), FULL);
        onFull("write(8)", x -> x.write(8, 59), FULL);
        onFaulty("write(0)", x -> x.write(0, 59), BAD);
        onFaulty("write(9)", x -> x.write(9, 59), BAD);
        edges.of(4, "FAULT. NONE.");
        onFull("fault()", x -> x.fault(), NONE);
        onFaulty("fault()", x -> x.fault(), GRAMMAR.length() + 30);
        edges.of(5, "NO: a FAULT.");
        onFaulty("lay()", x -> x.lay(), NO);
        onFaulty("lay() twice", x -> x.lay() + x.lay(), NO + NO);
        edges.of(6, "BAD.");
        onFull("price(-1)", x -> x.price(-1, true), BAD);
        onFull("price(5)", x -> x.price(5, false), BAD);
        edges.of(3, "THE TEXT is empty: how long it was.");
        onFull("wipe() and as much again", x -> {
            int was = x.wipe();
            String text = GRAMMAR + "p1,04;".repeat((400 - GRAMMAR.length()) % 5);
            Check.writeText(x, text + "p1,4;".repeat((400 - text.length()) / 5));
            return was;
        }, 400);
    }

    private static void ofSentences() {
        edges.of(7, "BAD; FULL: 8.");
        onFull("word(-1, 0)", x -> x.word(-1, 0), BAD);
        onFull("word(8, 0)", x -> x.word(8, 0), BAD);
        onFull("word(0, -1)", x -> x.word(0, -1), BAD);
        onFull("word(0, 6)", x -> x.word(0, 6), BAD);
        onFull("word(2, 6), BAD and FULL", x -> x.word(2, 6), BAD);
        onFull("word(2, 0)", x -> x.word(2, 0), FULL);
        edges.of(8, "BAD.");
        onFull("clear(-1)", x -> x.clear(-1), BAD);
        onFull("clear(8)", x -> x.clear(8), BAD);
        edges.of(9, "BAD.");
        onFull("quote(-1, 0)", x -> x.quote(-1, 0), BAD);
        onFull("quote(8, 0)", x -> x.quote(8, 0), BAD);
        onFull("quote(0, -1)", x -> x.quote(0, -1), BAD);
        onFull("quote(0, 256)", x -> x.quote(0, 256), BAD);
        edges.of(10, "BAD; NO: it is empty.");
        onFull("trees(8, 0)", x -> x.trees(8, 0), BAD);
        onFull("trees(0, 4)", x -> x.trees(0, 4), BAD);
        onFull("trees(4, -2), BAD and NO", x -> x.trees(4, -2), BAD);
        onFull("trees(4, -1)", x -> x.trees(4, -1), NO);
        onFull("trees(0, -1)", x -> x.trees(0, -1), 0);
        edges.of(11, "BAD (n 1 and more; beyond it).");
        onFull("part(8, 0, 1, 0, 0)", x -> x.part(8, 0, 1, 0, 0), BAD);
        onFull("part(0, 0, 0, 0, 0)", x -> x.part(0, 0, 0, 0, 0), BAD);
        onFull("part(0, 0, 3, 0, 0)", x -> x.part(0, 0, 3, 0, 0), BAD);
        onFull("part(4, 0, 1, 0, 0)", x -> x.part(4, 0, 1, 0, 0), BAD);
        onFull("part(2, 0, 1, 1, 0)", x -> x.part(2, 0, 1, 1, 0), 1);
        edges.of(12, "NONE; BAD; NO: it is empty.");
        onFull("least(8)", x -> x.least(8, true), BAD);
        onFull("least(4)", x -> x.least(4, false), NO);
        onFull("least(6)", x -> x.least(6, false), NONE);
        onFull("least(6), FITTED", x -> x.least(6, true), NONE);
        onFaulty("least(0), FITTED to OTHER", x -> x.least(0, true), 1);
        onFull("least(1)", x -> x.least(1, true), 0);
    }

    private static void ofMends() {
        edges.of(13, "NONE; BAD; NO: it is empty, READ.");
        onFull("mend(8, -1, 0)", x -> x.mend(8, -1, 0), BAD);
        onFull("mend(4, -2, 0), BAD and NO", x -> x.mend(4, -2, 0), BAD);
        onFull("mend(1, 0, 10), BAD and NO", x -> x.mend(1, 0, 10), BAD);
        onFull("mend(0, 40, 10), BAD and NONE", x -> x.mend(0, 40, 10), BAD);
        onFull("mend(4, 0, 0)", x -> x.mend(4, 0, 0), NO);
        onFull("mend(1, 99, 0), NO and NONE", x -> x.mend(1, 99, 0), NO);
        onFull("mend(0, 1, 0)", x -> x.mend(0, 1, 0), NONE);
        onFull("mend(0, 0, 9)", x -> x.mend(0, 0, 9), NONE);
        onFull("mend(6, 0, 0), no MENDS", x -> x.mend(6, 0, 0), NONE);
        onFull("mend(0, 0, 0) and mend(3, 0, 0)", x -> x.mend(0, 0, 0) + x.mend(3, 0, 0), 4);
        edges.of(14, "NONE: no MENDS (1, 2), fewer than two HEAPS (2); BAD; NO.");
        onFull("heaps(8, 0, 0)", x -> x.heaps(8, 0, 0), BAD);
        onFull("heaps(0, 100, 1)", x -> x.heaps(0, 100, 1), BAD);
        onFull("heaps(0, 0, 3)", x -> x.heaps(0, 0, 3), BAD);
        onFull("heaps(4, -1, 1), BAD and NO", x -> x.heaps(4, -1, 1), BAD);
        onFull("heaps(4, 0, 2), NO and NONE", x -> x.heaps(4, 0, 2), NO);
        onFull("heaps(1, 0, 0)", x -> x.heaps(1, 0, 0), NO);
        onFull("heaps(0, 0, 2)", x -> x.heaps(0, 0, 2), NONE);
        onFull("heaps(2, 0, 1)", x -> x.heaps(2, 0, 1), NONE);
        onFull("heaps(6, 0, 2)", x -> x.heaps(6, 0, 2), NONE);
        edges.of(15, "BARS. NONE; BAD; NO: it is empty.");
        onFull("bars(-1)", x -> x.bars(-1), BAD);
        onFull("bars(4)", x -> x.bars(4), NO);
        onFull("bars(2)", x -> x.bars(2), NONE);
        onFull("bars(0)", x -> x.bars(0), 1);
    }

    private static void ofKept() {
        edges.of(16, "BAD; NO: one is empty; FULL: 12.");
        onFull("keep(0, 8), BAD and FULL", x -> x.keep(0, 8), BAD);
        onFull("keep(4, 8), BAD, NO and FULL", x -> x.keep(4, 8), BAD);
        onFull("keep(-1, 4)", x -> x.keep(-1, 4), BAD);
        onFull("keep(0, 4), NO and FULL", x -> x.keep(0, 4), NO);
        onFull("keep(4, 0), NO and FULL", x -> x.keep(4, 0), NO);
        onFull("keep(0, 1)", x -> x.keep(0, 1), FULL);
        onFull("keep(0, 0)", x -> x.keep(0, 0), FULL);
        onFaulty("keep(0, 2)", x -> x.keep(0, 2), NO);
        onFaulty("keep(8, 2)", x -> x.keep(8, 2), BAD);
        edges.of(17, "BAD.");
        onFull("kept(-1)", x -> x.kept(-1), BAD);
        onFull("kept(3)", x -> x.kept(3), BAD);
        edges.of(18, "BAD: no such RULE.");
        onFull("byRule(-1)", x -> x.byRule(-1), BAD);
        onFull("byRule(2)", x -> x.byRule(2), BAD);
        edges.of(19, "NONE; BAD; NO: it is right, or READ.");
        onFull("theirs(12)", x -> x.theirs(12), BAD);
        onFull("theirs(-1)", x -> x.theirs(-1), BAD);
        onFull("theirs(0), right", x -> x.theirs(0), NO);
        onFull("theirs(5), READ", x -> x.theirs(5), NO);
        onFull("theirs(6), no MEND", x -> x.theirs(6), NONE);
        edges.of(20, "BAD; FULL: 60.");
        onFull("err(-1)", x -> x.err(-1), BAD);
        onFull("err(5), BAD and FULL", x -> x.err(5), BAD);
        onFull("err(0)", x -> x.err(0), FULL);
        onFull("err(4)", x -> x.err(4), FULL);
        onFaulty("err(5)", x -> x.err(5), BAD);
        edges.of(21, "BAD.");
        onFull("gone(5, 1)", x -> x.gone(5, 1), BAD);
        onFull("gone(0, 0)", x -> x.gone(0, 0), BAD);
        onFull("gone(0, 61)", x -> x.gone(0, 61), BAD);
        onFull("gone(2, 40)", x -> x.gone(2, 40), 1);
        edges.of(22, "BAD.");
        onFull("count(-1)", x -> x.count(-1), BAD);
        onFull("count(6)", x -> x.count(6), BAD);
    }

    /** The same calls on a new object, on which nothing is told yet. */
    private static void ofEmptyObjects() {
        edges.of(Edges.TERMS, "BAD: a number is none that is told (WORDS: those LAID). NO: not as things stand. NONE: there is none.");
        State fresh = OneWordWrong::new;
        due("word(0, 0)", fresh, x -> x.word(0, 0), BAD);
        due("part(0, 0, 1, 0, 0)", fresh, x -> x.part(0, 0, 1, 0, 0), BAD);
        due("byRule(0)", fresh, x -> x.byRule(0), BAD);
        due("theirs(0)", fresh, x -> x.theirs(0), BAD);
        due("trees(0, -1)", fresh, x -> x.trees(0, -1), NO);
        due("least(0)", fresh, x -> x.least(0, true), NO);
        due("mend(0, -1, 0)", fresh, x -> x.mend(0, -1, 0), NO);
        due("heaps(0, 0, 2)", fresh, x -> x.heaps(0, 0, 2), NO);
        due("bars(0)", fresh, x -> x.bars(0), NO);
        due("keep(0, 1)", fresh, x -> x.keep(0, 1), NO);
        due("fault()", fresh, x -> x.fault(), NONE);
        edges.of(Edges.TERMS, "Of several the first; nothing changes then.");
        due("write(0)", fresh, x -> x.write(0, 0), BAD);
        due("err(5)", fresh, x -> x.err(5), BAD);
        due("keep(0, 8), BAD and NO", fresh, x -> x.keep(0, 8), BAD);
        due("trees(0, 4), BAD and NO", fresh, x -> x.trees(0, 4), BAD);
        due("mend(0, 0, 10), BAD and NO", fresh, x -> x.mend(0, 0, 10), BAD);
        due("heaps(0, 100, 1), BAD and NO", fresh, x -> x.heaps(0, 100, 1), BAD);
        onFull("word(2, 6), BAD and FULL", x -> x.word(2, 6), BAD);
        onFull("write(9), BAD and FULL", x -> x.write(9, 0), BAD);
        onFull("keep(0, 4), NO and FULL", x -> x.keep(0, 4), NO);
    }
}
