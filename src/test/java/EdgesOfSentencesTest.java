/** The boundary cases of what is said of SENTENCES: Terms, and promises 7 to 11. */
public final class EdgesOfSentencesTest {
    private static final String SMALL = "r0,1,2,1,0;w1,0,0,0;w1,1,0,1;w2,0,1,2;w2,1,1,3;w1,0,2,3;";
    private static final int[] NO_SENTENCES = {-1, 8, 9, 255, 256, Integer.MIN_VALUE, Integer.MAX_VALUE};
    private static Edges edges;

    public static void main(String[] args) {
        edges = new Edges("EdgesOfSentencesTest", args);
        edges.run(
                EdgesOfSentencesTest::termsOneToEight, EdgesOfSentencesTest::termsSentences, EdgesOfSentencesTest::termsTree,
                EdgesOfSentencesTest::termsRead, EdgesOfSentencesTest::wordHowMany, EdgesOfSentencesTest::wordBad,
                EdgesOfSentencesTest::wordBadWords, EdgesOfSentencesTest::wordFull, EdgesOfSentencesTest::clearEmpty,
                EdgesOfSentencesTest::clearBad, EdgesOfSentencesTest::quotePlaces, EdgesOfSentencesTest::quoteBad,
                EdgesOfSentencesTest::treesAny, EdgesOfSentencesTest::treesHowMany, EdgesOfSentencesTest::treesBad,
                EdgesOfSentencesTest::treesNo, EdgesOfSentencesTest::partOneOrNone, EdgesOfSentencesTest::partBad,
                EdgesOfSentencesTest::partBeyond);
        edges.end(7, 11);
    }

    private static void due(String call, long got, long want) {
        edges.due(call, got, want);
    }

    private static void termsOneToEight() {
        edges.of(Edges.TERMS, "A SENTENCE is a row of WORDS (1 to 8)");
        OneWordWrong x = Check.laid("w0,0,0,0;r0,0,0,0,0;");
        for (int n = 1; n <= 8; n++) {
            due("WORD " + n, x.word(0, 0), n);
            due("it is READ", x.trees(0, -1) > 0 ? 1 : 0, 1);
        }
        due("a ninth", x.word(0, 0), -3);
        due("none at all: nothing can be READ", x.trees(1, -1), -2);
    }

    private static void termsSentences() {
        edges.of(Edges.TERMS, "SENTENCES 0 to 7, empty at first");
        OneWordWrong x = Check.laid(SMALL);
        for (int s = 0; s < 8; s++) {
            due("SENTENCE " + s + " at first", x.trees(s, -1), -2);
            for (int n = 1; n <= s + 1; n++) {
                due("its own WORDS", x.word(s, 0), n);
            }
        }
        due("all of them", x.count(5), 36);
        for (int s = 0; s < 8; s++) {
            due("SENTENCE " + s, x.clear(s), s + 1);
        }
        due("there is no SENTENCE 8", x.word(8, 0), -1);
        due("there is no SENTENCE -1", x.word(-1, 0), -1);
    }

    private static void termsTree() {
        edges.of(Edges.TERMS, "one WORD (its KIND, MARK), or by a RULE two TREES side by side");
        OneWordWrong x = Check.laid("w0,3,0,0;w1,0,0,0;w2,0,0,0;r0,1,2,0,0;");
        Check.say(x, 0, 0);
        due("one WORD", x.trees(0, 3), 1);
        Check.say(x, 1, 1);
        due("one WORD of another KIND", x.trees(1, -1), 0);
        Check.say(x, 2, 1, 2);
        due("two side by side", x.trees(2, -1), 1);
        Check.say(x, 3, 1, 0, 2);
        due("two with one between", x.trees(3, -1), 0);
        Check.say(x, 4, 0, 0);
        due("two that no RULE joins", x.trees(4, -1), 0);
        // the left one and the right one have up to seven WORDS
        OneWordWrong left = Check.laid("w1,0,0,0;w2,0,0,0;r3,1,1,0,0;r3,3,1,0,0;r0,3,2,0,0;");
        Check.say(left, 0, 0, 0, 0, 0, 0, 0, 0, 1);
        due("seven and one", left.trees(0, -1), 1);
        OneWordWrong right = Check.laid("w1,0,0,0;w2,0,0,0;r3,1,1,0,0;r3,1,3,0,0;r0,2,3,0,0;");
        Check.say(right, 0, 1, 0, 0, 0, 0, 0, 0, 0);
        due("one and seven", right.trees(0, -1), 1);
    }

    private static void termsRead() {
        edges.of(Edges.TERMS, "READ is a SENTENCE, if there is a TREE of KIND 0 (any MARK) over all; how many such TREES");
        for (int mark = 0; mark < 4; mark++) {
            OneWordWrong x = Check.laid("w0," + mark + ",0,0;w1," + mark + ",0,0;");
            Check.say(x, 0, 0);
            due("KIND 0 with MARK " + mark, x.least(0, false), 0);
            due("it has no MENDS", x.mend(0, -1, 0), -2);
            Check.say(x, 1, 1);
            due("KIND 1 with MARK " + mark + " is not READ", x.trees(1, -1), 0);
        }
        OneWordWrong y = Check.laid("w0,0,0,0;w1,0,0,0;r0,0,0,0,0;");
        Check.say(y, 0, 0, 0, 0, 0, 0, 0, 0, 1);
        due("over the first seven of eight", y.trees(0, -1), 0);
        Check.say(y, 1, 1, 0, 0, 0, 0, 0, 0, 0);
        due("over the last seven of eight", y.trees(1, -1), 0);
        Check.say(y, 2, 0, 0, 0, 0, 0, 0, 0, 0);
        due("over all: so many", y.trees(2, -1), 429);
    }

    private static void wordHowMany() {
        edges.of(7, "A WORD behind SENTENCE s: how many it has.");
        OneWordWrong x = Check.laid(SMALL);
        due("the first", x.word(0, 0), 1);
        due("behind it", x.word(0, 2), 2);
        due("in that order", x.trees(0, -1), 1);
        due("in the last SENTENCE", x.word(7, 2), 1);
        due("behind that", x.word(7, 0), 2);
        due("in that order too", x.trees(7, -1), 0);
        due("the same WORD again", x.word(7, 0), 3);
    }

    private static void wordBad() {
        edges.of(7, "BAD");
        OneWordWrong x = Check.laid(SMALL);
        for (int s : NO_SENTENCES) {
            due("s " + s, x.word(s, 0), -1);
        }
        for (int word : new int[] {-1, 5, 16, 255, 256, Integer.MIN_VALUE, Integer.MAX_VALUE}) {
            due("word " + word, x.word(0, word), -1);
        }
        due("nothing came", x.count(5), 0);
        due("the lowest", x.word(0, 0), 1);
        due("the highest", x.word(7, 4), 1);
    }

    private static void wordBadWords() {
        edges.of(Edges.TERMS, "BAD: a number is none that is told (WORDS: those LAID)");
        OneWordWrong x = new OneWordWrong();
        due("none is LAID", x.word(0, 0), -1);
        Check.writeText(x, "w0,0,0,0;w0,0,0,0;");
        due("written, not LAID", x.word(0, 0), -1);
        x.lay();
        due("LAID", x.word(0, 1), 1);
        due("one more than LAID", x.word(0, 2), -1);
        x.wipe();
        due("wiped, but LAID", x.word(0, 1), 2);
        Check.writeText(x, "w0,0,0,0;");
        x.lay();
        due("not LAID any more", x.word(0, 1), -1);
        due("still LAID", x.word(0, 0), 1);
    }

    private static void wordFull() {
        edges.of(7, "FULL: 8.");
        OneWordWrong x = Check.laid(SMALL);
        for (int s = 0; s < 8; s++) {
            for (int n = 1; n <= 8; n++) {
                due("WORD " + n + " of " + s, x.word(s, 0), n);
            }
            due("a ninth of " + s, x.word(s, 0), -3);
            due("again", x.word(s, 4), -3);
            due("BAD ahead of FULL", x.word(s, 5), -1);
        }
        due("64 in all", x.count(5), 64);
        due("they are as they were", x.part(0, 7, 1, 1, 0), 1);
        due("cleared", x.clear(3), 8);
        due("there is room", x.word(3, 1), 1);
    }

    private static void clearEmpty() {
        edges.of(8, "SENTENCE s is empty, nothing QUOTED: how many WORDS it had.");
        OneWordWrong x = Check.laid(SMALL);
        due("an empty one", x.clear(0), 0);
        Check.say(x, 0, 1);
        Check.say(x, 7, 1, 1, 1, 1, 1, 1, 1, 1);
        Check.say(x, 1, 0, 2);
        x.quote(0, 1);
        x.quote(7, 255);
        x.quote(1, 3);
        x.quote(2, 9);
        due("one WORD", x.clear(0), 1);
        due("a full one", x.clear(7), 8);
        due("an empty one that is QUOTED", x.clear(2), 0);
        for (int s : new int[] {0, 2, 7}) {
            due(s + " is empty", x.trees(s, -1), -2);
            due("nothing QUOTED in " + s, x.quote(s, 0), 0);
            due(s + " again", x.clear(s), 0);
        }
        due("another is left alone", x.trees(1, -1), 1);
        due("its QUOTED places too", x.quote(1, 0), 3);
        due("WORDS come again from the first on", x.word(7, 0), 1);
    }

    private static void clearBad() {
        edges.of(8, "BAD.");
        OneWordWrong x = Check.laid(SMALL);
        Check.say(x, 0, 1);
        Check.say(x, 7, 1);
        for (int s : NO_SENTENCES) {
            due("s " + s, x.clear(s), -1);
        }
        due("none was cleared", x.count(5), 2);
    }

    private static void quotePlaces() {
        edges.of(9, "QUOTED places (0 to 255): what it was.");
        OneWordWrong x = Check.laid(SMALL);
        due("none at first", x.quote(0, 255), 0);
        due("all", x.quote(0, 0), 255);
        due("none", x.quote(0, 128), 0);
        due("the last", x.quote(0, 1), 128);
        due("the first", x.quote(0, 1), 1);
        due("of the last SENTENCE", x.quote(7, 255), 0);
        due("each has its own", x.quote(0, 0), 1);
        due("of an empty one, behind its end", x.quote(7, 2), 255);
        x.word(7, 0);
        x.word(7, 3);
        due("WORDS that come behind are QUOTED by their places", x.mend(7, -1, 0), 1);
        due("the first becomes another", x.mend(7, 0, 2), 1);
        due("the second is left alone", x.mend(7, 0, 3), 3);
        due("and it is QUOTED still", x.quote(7, 0), 2);
        Check.say(x, 6, 0, 2);
        x.quote(6, 255);
        due("TREES do not ask what is QUOTED", x.trees(6, -1), 1);
        due("nor do parts", x.part(6, 0, 2, 0, 0), 1);
    }

    private static void quoteBad() {
        edges.of(9, "BAD.");
        OneWordWrong x = Check.laid(SMALL);
        x.quote(0, 5);
        for (int s : NO_SENTENCES) {
            due("s " + s, x.quote(s, 0), -1);
        }
        for (int places : new int[] {-1, 256, 257, 511, Integer.MIN_VALUE, Integer.MAX_VALUE}) {
            due("places " + places, x.quote(0, places), -1);
        }
        due("it stays", x.quote(0, 255), 5);
    }

    private static void treesAny() {
        edges.of(10, "How many TREES of KIND 0 over all (MARK -1: any).");
        // a 1 and a 2 are a 0 with the MARK of the one (three RULES) and of the other (one RULE)
        OneWordWrong x = Check.laid("w1,0,0,0;w2,3,0,0;r0,1,2,0,0;r0,1,2,0,0;r0,1,2,0,0;r0,1,2,0,1;");
        Check.say(x, 0, 0, 1);
        due("any", x.trees(0, -1), 4);
        due("MARK 0", x.trees(0, 0), 3);
        due("MARK 1", x.trees(0, 1), 0);
        due("MARK 2", x.trees(0, 2), 0);
        due("MARK 3", x.trees(0, 3), 1);
        Check.say(x, 7, 1, 0);
        due("none", x.trees(7, -1), 0);
    }

    private static void treesHowMany() {
        edges.of(10, "How many TREES");
        OneWordWrong x = Check.laid("w0,3,0,0;" + "r0,0,0,1,1;".repeat(24));
        long[] shapes = {1, 1, 2, 5, 14, 42, 132, 429};
        long byRules = 1;
        for (int n = 1; n <= 8; n++, byRules *= 24) {
            x.word(7, 0);
            due("over " + n, x.trees(7, -1), shapes[n - 1] * byRules);
            due("over " + n + " with the MARK", x.trees(7, 3), shapes[n - 1] * byRules);
        }
        due("more than an int holds", x.trees(7, 3), 1967596240896L);
        due("with another MARK", x.trees(7, 0), 0);
    }

    private static void treesBad() {
        edges.of(10, "BAD");
        OneWordWrong x = Check.laid(SMALL);
        Check.say(x, 0, 0, 2);
        for (int s : NO_SENTENCES) {
            due("s " + s, x.trees(s, -1), -1);
        }
        for (int mark : new int[] {-2, 4, 5, Integer.MIN_VALUE, Integer.MAX_VALUE}) {
            due("mark " + mark, x.trees(0, mark), -1);
            due("mark " + mark + " of an empty one", x.trees(1, mark), -1);
        }
        due("mark 3 is told", x.trees(0, 3), 0);
    }

    private static void treesNo() {
        edges.of(10, "NO: it is empty.");
        OneWordWrong x = Check.laid("w0,0,0,0;");
        for (int mark = -1; mark < 4; mark++) {
            due("mark " + mark, x.trees(0, mark), -2);
        }
        x.word(0, 0);
        due("one WORD", x.trees(0, -1), 1);
        x.clear(0);
        due("cleared", x.trees(0, -1), -2);
    }

    private static void partOneOrNone() {
        edges.of(11, "1: a KIND with a MARK has a TREE over n WORDS from a place on; 0.");
        OneWordWrong x = Check.laid("w1,0,0,0;w9,3,0,0;r9,1,1,0,0;r9,9,1,0,0;r0,9,9,0,1;");
        Check.say(x, 7, 0, 0, 0, 0, 0, 0, 0, 1);
        due("one WORD, the first", x.part(7, 0, 1, 1, 0), 1);
        due("one WORD, the last", x.part(7, 7, 1, 9, 3), 1);
        due("of another KIND", x.part(7, 7, 1, 8, 3), 0);
        due("with another MARK", x.part(7, 7, 1, 9, 2), 0);
        due("the first seven", x.part(7, 0, 7, 9, 0), 1);
        due("the last two", x.part(7, 6, 2, 0, 3), 0);
        due("the last three", x.part(7, 5, 3, 0, 3), 1);
        due("all eight", x.part(7, 0, 8, 0, 3), 1);
        due("all eight with another MARK", x.part(7, 0, 8, 0, 0), 0);
        due("all eight of another KIND", x.part(7, 0, 8, 9, 0), 0);
        // by 16 RULES there are 429 times 16 to the 7th: as an int it would be below 0
        for (int rules = 1; rules <= 24; rules++) {
            OneWordWrong many = Check.laid("w0,0,0,0;" + "r0,0,0,0,0;".repeat(rules));
            Check.say(many, 0, 0, 0, 0, 0, 0, 0, 0, 0);
            due("many TREES by " + rules + " RULES are 1", many.part(0, 0, 8, 0, 0), 1);
            due("it is READ", many.bars(0), 0);
        }
    }

    private static void partBad() {
        edges.of(11, "BAD (n 1 and more");
        OneWordWrong x = Check.laid(SMALL);
        Check.say(x, 0, 0, 2);
        for (int s : NO_SENTENCES) {
            due("s " + s, x.part(s, 0, 1, 1, 0), -1);
        }
        for (int n : new int[] {0, -1, Integer.MIN_VALUE}) {
            due("n " + n, x.part(0, 0, n, 1, 0), -1);
            due("n " + n + " from 1", x.part(0, 1, n, 1, 0), -1);
        }
        for (int kind : new int[] {-1, 10, Integer.MIN_VALUE, Integer.MAX_VALUE}) {
            due("kind " + kind, x.part(0, 0, 1, kind, 0), -1);
        }
        for (int mark : new int[] {-1, 4, Integer.MIN_VALUE, Integer.MAX_VALUE}) {
            due("mark " + mark, x.part(0, 0, 1, 1, mark), -1);
        }
        due("n 1", x.part(0, 0, 1, 1, 0), 1);
        due("kind 0 and mark 0", x.part(0, 0, 2, 0, 0), 1);
        due("kind 9 and mark 3", x.part(0, 0, 1, 9, 3), 0);
    }

    private static void partBeyond() {
        edges.of(11, "beyond it");
        OneWordWrong x = Check.laid(SMALL);
        due("an empty one", x.part(0, 0, 1, 1, 0), -1);
        Check.say(x, 0, 0, 2);
        due("to its end", x.part(0, 0, 2, 0, 0), 1);
        due("one beyond", x.part(0, 0, 3, 0, 0), -1);
        due("its last WORD", x.part(0, 1, 1, 2, 0), 1);
        due("one beyond from the last", x.part(0, 1, 2, 0, 0), -1);
        due("from its end on", x.part(0, 2, 1, 0, 0), -1);
        due("from place 7 on", x.part(0, 7, 1, 0, 0), -1);
        due("from place 8 on", x.part(0, 8, 1, 0, 0), -1);
        due("from below 0", x.part(0, -1, 1, 0, 0), -1);
        due("from below 0 to its end", x.part(0, -1, 3, 0, 0), -1);
        due("what wraps around", x.part(0, 1, Integer.MAX_VALUE, 0, 0), -1);
        due("what wraps around to 1", x.part(0, Integer.MAX_VALUE, Integer.MIN_VALUE + 2, 0, 0), -1);
        due("both great", x.part(0, Integer.MAX_VALUE, Integer.MAX_VALUE, 0, 0), -1);
        due("both small", x.part(0, Integer.MIN_VALUE, Integer.MIN_VALUE, 0, 0), -1);
        Check.say(x, 1, 0, 2, 0, 2, 0, 2, 0, 2);
        due("a full one, all", x.part(1, 0, 8, 0, 0), 0);
        due("a full one, nine", x.part(1, 0, 9, 0, 0), -1);
        due("a full one, its last", x.part(1, 7, 1, 2, 0), 1);
        due("a full one, two from its last", x.part(1, 7, 2, 0, 0), -1);
        x.clear(1);
        due("cleared", x.part(1, 0, 1, 1, 0), -1);
    }
}
