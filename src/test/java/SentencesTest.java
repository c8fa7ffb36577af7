/** Promises 7 to 15: word, clear, quote, trees, part, least, mend, heaps, bars. */
public final class SentencesTest {
    private static final Check CHECK = new Check("SentencesTest");
    private static final String SMALL = "r0,1,2,1,0;w1,0,0,0;w1,1,0,1;w2,0,1,2;w2,1,1,3;w1,0,2,3;";
    /** Sixteen WORDS of KIND 1, each with a FAMILY and a SOUND of its own; READ are rows of two and of four. */
    private static final String SIXTEEN = sixteen() + "r0,1,1,0,0;r2,1,1,0,0;r0,2,2,0,0;";

    public static void main(String[] args) {
        promise7Word();
        promise8Clear();
        promise9Quote();
        promise10Trees();
        promise10Marks();
        promise11Part();
        promise12Least();
        promise12LeastByManyChanges();
        promise12LeastByLongChains();
        promise13Mend();
        promise13Order();
        promise13Forty();
        promise13ManyTries();
        promise13Quoted();
        promise14Heaps();
        promise14Asked();
        promise15Bars();
        promise15BarsOfSeveral();
        CHECK.end();
    }

    private static String sixteen() {
        StringBuilder text = new StringBuilder();
        for (int w = 0; w < 16; w++) {
            text.append("w1,0," + w + "," + w + ";");
        }
        return text.toString();
    }

    private static void due(String call, long got, long want) {
        CHECK.due(call, got, want);
    }

    private static void dueMend(OneWordWrong x, int s, int i, int price, int... words) {
        String name = "mend " + i + " of " + s + ": ";
        due(name + "PRICE", x.mend(s, i, 0), price);
        due(name + "size", x.mend(s, i, 1), words.length);
        for (int p = 0; p < 8; p++) {
            due(name + "WORD " + p, x.mend(s, i, p + 2), p < words.length ? words[p] : -4);
        }
    }

    private static void promise7Word() {
        OneWordWrong x = Check.laid(SMALL);
        due("word(-1, 0)", x.word(-1, 0), -1);
        due("word(8, 0)", x.word(8, 0), -1);
        due("word(0, -1)", x.word(0, -1), -1);
        due("word(0, 5)", x.word(0, 5), -1);
        due("word(max, max)", x.word(Integer.MAX_VALUE, Integer.MAX_VALUE), -1);
        due("nothing came", x.count(5), 0);
        for (int k = 1; k <= 8; k++) {
            due("word " + k, x.word(7, 4), k);
        }
        due("a ninth", x.word(7, 4), -3);
        due("BAD ahead of FULL", x.word(7, 5), -1);
        due("another SENTENCE", x.word(0, 0), 1);
        due("behind it", x.word(0, 2), 2);
        due("in that order", x.trees(0, 0), 1);
        due("all", x.count(5), 10);
    }

    private static void promise8Clear() {
        OneWordWrong x = Check.laid(SMALL);
        Check.say(x, 2, 0, 2, 0);
        Check.say(x, 3, 1);
        x.quote(2, 7);
        x.quote(3, 1);
        due("clear", x.clear(2), 3);
        due("again", x.clear(2), 0);
        due("nothing QUOTED", x.quote(2, 0), 0);
        due("empty", x.trees(2, -1), -2);
        due("others stay", x.count(5), 1);
        due("QUOTED there too", x.quote(3, 1), 1);
        due("clear(-1)", x.clear(-1), -1);
        due("clear(8)", x.clear(8), -1);
        due("WORDS again", x.word(2, 1), 1);
    }

    private static void promise9Quote() {
        OneWordWrong x = Check.laid(SMALL);
        due("quote", x.quote(5, 255), 0);
        due("what it was", x.quote(5, 1), 255);
        due("BAD 256", x.quote(5, 256), -1);
        due("BAD -1", x.quote(5, -1), -1);
        due("BAD s", x.quote(8, 0), -1);
        due("BAD s below", x.quote(-1, 0), -1);
        due("it stays", x.quote(5, 2), 1);
        due("another", x.quote(4, 0), 0);
        due("WORDS come behind", x.word(5, 0), 1);
        due("and it is QUOTED still", x.quote(5, 0), 2);
    }

    private static void promise10Trees() {
        OneWordWrong x = Check.laid("w0,0,0,0;" + "r0,0,0,0,0;".repeat(24));
        due("empty", x.trees(0, -1), -2);
        long[] shapes = {1, 1, 2, 5, 14, 42, 132, 429};
        long each = 1;
        for (int k = 0; k < 8; k++, each *= 24) {
            x.word(0, 0);
            due("TREES over " + (k + 1), x.trees(0, -1), shapes[k] * each);
        }
        due("as a long", x.trees(0, 0), 1967596240896L);
        due("no other MARK", x.trees(0, 1), 0);
        due("mark -2", x.trees(0, -2), -1);
        due("mark 4", x.trees(0, 4), -1);
        due("s -1", x.trees(-1, -1), -1);
        due("s 8", x.trees(8, -1), -1);
        due("BAD ahead of NO", x.trees(1, 4), -1);

        OneWordWrong y = Check.laid("w1,0,0,0;w0,3,0,0;r1,1,1,0,0;");
        Check.say(y, 0, 0, 0, 0);
        due("TREES of another KIND do not count", y.trees(0, -1), 0);
        Check.say(y, 1, 1);
        due("one WORD of KIND 0", y.trees(1, -1), 1);
        due("its MARK", y.trees(1, 3), 1);
        Check.say(y, 2, 0);
        due("one WORD of another KIND", y.trees(2, -1), 0);
        Check.say(y, 3, 1, 1);
        due("two TREES no RULE joins", y.trees(3, -1), 0);
    }

    private static void promise10Marks() {
        // WORDS: KIND 1 with MARKS 0 to 3, KIND 2 with MARKS 0 to 3
        String words = "w1,0,0,0;w1,1,0,0;w1,2,0,0;w1,3,0,0;w2,0,0,0;w2,1,0,0;w2,2,0,0;w2,3,0,0;";
        String[] rules = {"r0,1,2,0,0;", "r0,1,2,0,1;", "r0,1,2,1,0;", "r0,1,2,1,1;"};
        for (int kind = 0; kind < 4; kind++) {
            OneWordWrong x = Check.laid(words + rules[kind]);
            for (int y = 0; y < 4; y++) {
                for (int z = 0; z < 4; z++) {
                    Check.say(x, 0, y, 4 + z);
                    boolean joined = kind < 2 || y == z;
                    int mark = kind % 2 == 0 ? y : z;
                    due(rules[kind] + " any", x.trees(0, -1), joined ? 1 : 0);
                    due(rules[kind] + " its MARK", x.trees(0, mark), joined ? 1 : 0);
                    due(rules[kind] + " another", x.trees(0, (mark + 1) % 4), 0);
                }
            }
            Check.say(x, 0, 4, 0);
            due("the other way round", x.trees(0, -1), 0);
        }
    }

    private static void promise11Part() {
        OneWordWrong x = Check.laid("w1,1,0,0;w2,1,0,0;w3,2,0,0;r4,1,2,1,0;r0,4,3,0,1;");
        Check.say(x, 0, 0, 1, 2);
        due("a WORD", x.part(0, 1, 1, 2, 1), 1);
        due("with another MARK", x.part(0, 1, 1, 2, 0), 0);
        due("of another KIND", x.part(0, 1, 1, 1, 1), 0);
        due("two of them", x.part(0, 0, 2, 4, 1), 1);
        due("from another place", x.part(0, 1, 2, 4, 1), 0);
        due("all", x.part(0, 0, 3, 0, 2), 1);
        due("all with the other MARK", x.part(0, 0, 3, 0, 1), 0);
        due("n 0", x.part(0, 0, 0, 0, 0), -1);
        due("n -1", x.part(0, 1, -1, 0, 0), -1);
        due("beyond it", x.part(0, 1, 3, 0, 0), -1);
        due("from beyond", x.part(0, 3, 1, 0, 0), -1);
        due("from -1", x.part(0, -1, 1, 0, 0), -1);
        due("kind 10", x.part(0, 0, 1, 10, 0), -1);
        due("kind -1", x.part(0, 0, 1, -1, 0), -1);
        due("kind 9", x.part(0, 0, 1, 9, 0), 0);
        due("mark 4", x.part(0, 0, 1, 0, 4), -1);
        due("mark -1", x.part(0, 0, 1, 0, -1), -1);
        due("s 8", x.part(8, 0, 1, 0, 0), -1);
        due("s -1", x.part(-1, 0, 1, 0, 0), -1);
        due("an empty one", x.part(1, 0, 1, 0, 0), -1);
        due("great numbers", x.part(0, Integer.MAX_VALUE, Integer.MAX_VALUE, 0, 0), -1);
        due("great numbers that wrap", x.part(0, 2, Integer.MAX_VALUE, 0, 0), -1);
        due("small numbers", x.part(0, Integer.MIN_VALUE, Integer.MIN_VALUE, 0, 0), -1);
    }

    private static void promise12Least() {
        OneWordWrong x = Check.laid(SMALL);
        Check.say(x, 0, 0, 2);
        due("READ", x.least(0, false), 0);
        x.quote(0, 3);
        due("READ and QUOTED", x.least(0, true), 0);
        due("empty", x.least(1, false), -2);
        due("s 8", x.least(8, false), -1);
        due("s -1", x.least(-1, true), -1);
        Check.say(x, 1, 0, 3);
        due("FORM", x.least(1, false), 3);
        x.quote(1, 2);
        due("FORM of the first", x.least(1, false), 3);
        x.quote(1, 3);
        due("all QUOTED", x.least(1, false), -4);
        Check.say(x, 2, 4);
        due("IN behind", x.least(2, false), 5);
        x.quote(2, 1);
        due("IN beside what is QUOTED", x.least(2, false), 5);
        Check.say(x, 3, 4, 3);
        due("SOUND is no way here, FORM is", x.least(3, false), 3);
        x.quote(3, 2);
        due("OTHER of the first", x.least(3, false), 6);
        Check.say(x, 4, 1, 2);
        x.quote(4, 2);
        due("FORM, the first WORD of all", x.least(4, false), 3);
        due("so the MEND", x.mend(4, 0, 2), 0);
        for (int k = 0; k < 9; k++) {
            x.err(0);
        }
        x.err(2);
        due("FITTED: FORM 2", x.least(1, true), -4);
        x.quote(1, 0);
        due("FITTED: FORM 10 less 8", x.least(1, true), 2);
        due("as told all the same", x.least(1, false), 3);
        due("FITTED: OTHER 10", x.least(3, true), 10);
    }

    private static void promise12LeastByManyChanges() {
        OneWordWrong x = Check.laid("w0,0,0,0;w1,0,1,1;p3,50;p4,49;");
        Check.say(x, 0, 1);
        due("OUT and IN, by 99", x.least(0, false), 99);
        Check.say(x, 1, 0, 0);
        due("OUT, one is left", x.least(1, false), 50);
        x.quote(1, 1);
        due("the other goes", x.least(1, false), 50);
        x.quote(1, 3);
        due("none goes", x.least(1, false), -4);
        OneWordWrong y = Check.laid("w0,0,0,0;w1,0,1,1;p3,50;p4,50;");
        Check.say(y, 0, 1);
        due("OUT and IN, by 100", y.least(0, false), -4);
        OneWordWrong z = Check.laid("w1,0,0,0;r1,1,1,0,0;");
        Check.say(z, 0, 0);
        due("no KIND 0 at all", z.least(0, false), -4);

        // pairs of KIND 1 and KIND 2; a WORD that goes is dear
        OneWordWrong pairs = Check.laid("w1,0,0,0;w2,0,1,1;r0,1,2,0,0;r0,0,0,0,0;p3,90;p4,2;");
        Check.say(pairs, 0, 0, 0, 0, 0, 0, 0, 0, 0);
        due("eight are put in, the row is longer than a SENTENCE", pairs.least(0, false), 16);
        due("no one change does it", pairs.mend(0, -1, 0), 0);
        Check.say(pairs, 1, 1, 1, 0);
        due("three are put in", pairs.least(1, false), 6);

        // what is put in makes a TREE of its own: 0 is 1 and 3, 3 is 2 and 2
        OneWordWrong deep = Check.laid("w1,1,0,0;w2,0,1,1;w2,1,2,2;r3,2,2,0,1;r0,1,3,1,0;");
        Check.say(deep, 0, 0);
        due("two are put in", deep.least(0, false), 10);
        Check.say(deep, 1, 1, 1, 0, 2);
        due("two go, one is put in", deep.least(1, false), 15);
        OneWordWrong free = Check.laid("w1,1,0,0;w2,0,1,1;w2,1,2,2;r3,2,2,0,1;r0,1,3,1,0;p4,0;");
        Check.say(free, 0, 0);
        due("for nothing", free.least(0, false), 0);
        due("but it is not READ", free.trees(0, -1), 0);

        // each WORD is changed once at most: 0 sounds like 1, 1 is a FORM of 2
        OneWordWrong once = Check.laid("w1,0,0,0;w2,0,1,0;w0,0,1,1;p0,1;p1,1;p3,40;p4,40;");
        Check.say(once, 0, 0);
        due("not changed twice", once.least(0, false), 80);
        Check.say(once, 1, 1);
        due("changed once", once.least(1, false), 1);
        Check.say(once, 2, 1, 0);
        due("changed, and one goes", once.least(2, false), 41);
    }

    private static void promise12LeastByLongChains() {
        // from the top down: 0 is 1 2, 1 is 3 4, 3 is 5 6; and the same to the left: 0 is 2 7, 7 is 4 8, 8 is 6 9
        OneWordWrong x = Check.laid("w2,0,0,0;w4,0,1,1;w5,0,2,2;w6,0,3,3;w9,0,4,4;"
                + "r0,1,2,0,0;r1,3,4,0,0;r3,5,6,0,0;r0,2,7,0,0;r7,4,8,0,0;r8,6,9,0,0;p4,2;p3,60;");
        Check.say(x, 0, 2);
        due("three are put in behind", x.least(0, false), 6);
        Check.say(x, 0, 4);
        due("three are put in ahead", x.least(0, false), 6);
        Check.say(x, 0, 1);
        due("two ahead, one behind", x.least(0, false), 6);
        Check.say(x, 0, 0, 3);
        due("two are put in between and behind", x.least(0, false), 4);
        x.quote(0, 3);
        due("beside what is QUOTED", x.least(0, false), 4);
        // 0 is 9 1 alone: all the rest of the chain is put in
        OneWordWrong y = Check.laid("w2,0,0,0;w4,0,1,1;w5,0,2,2;w6,0,3,3;w9,0,4,4;r0,9,1,0,0;r1,7,2,0,0;r7,3,4,0,0;r3,5,6,0,0;p4,3;");
        Check.say(y, 0, 4);
        due("four are put in as one TREE", y.least(0, false), 12);
    }

    private static void promise13Mend() {
        OneWordWrong x = Check.laid(SMALL);
        Check.say(x, 0, 0, 2);
        due("READ", x.mend(0, -1, 0), -2);
        due("READ, the first", x.mend(0, 0, 0), -2);
        due("empty", x.mend(1, -1, 0), -2);
        due("empty, far beyond", x.mend(1, 99, 9), -2);
        Check.say(x, 1, 0, 3);
        due("how many", x.mend(1, -1, 0), 2);
        due("how many, whatever is asked", x.mend(1, -1, 9), 2);
        dueMend(x, 1, 0, 3, 0, 2);
        dueMend(x, 1, 1, 3, 1, 3);
        due("a third", x.mend(1, 2, 0), -4);
        due("a great one", x.mend(1, Integer.MAX_VALUE, 2), -4);
        due("i -2", x.mend(1, -2, 0), -1);
        due("what -1", x.mend(1, 0, -1), -1);
        due("what 10", x.mend(1, 0, 10), -1);
        due("what 10 of all", x.mend(1, -1, 10), -1);
        due("s -1", x.mend(-1, 0, 0), -1);
        due("s 8", x.mend(8, 0, 0), -1);
        due("BAD ahead of NO", x.mend(0, 0, 10), -1);
        // it is found anew when the SENTENCE has changed
        x.word(1, 2);
        due("a WORD more", x.mend(1, -1, 0), 1);
        dueMend(x, 1, 0, 5, 0, 2);
        Check.say(x, 1, 4, 3);
        due("another row", x.mend(1, -1, 0), 2);
        // FORM of the second; OTHER of the first; SOUND of the second makes two of KIND 1
        dueMend(x, 1, 0, 3, 4, 2);
        dueMend(x, 1, 1, 6, 1, 3);
    }

    private static void promise13Order() {
        // three WORDS of KIND 1 in two FAMILIES; rows of two are READ; each change costs 5
        OneWordWrong x = Check.laid("w1,0,0,0;w1,0,0,1;w1,0,1,1;w2,0,2,2;r0,1,1,0,0;p0,5;p1,4;p2,5;");
        Check.say(x, 0, 2, 1, 0);
        due("OUT alone", x.mend(0, -1, 0), 3);
        dueMend(x, 0, 0, 5, 1, 0);
        dueMend(x, 0, 1, 5, 2, 0);
        dueMend(x, 0, 2, 5, 2, 1);
        Check.say(x, 1, 0);
        due("IN alone, each row once", x.mend(1, -1, 0), 5);
        dueMend(x, 1, 0, 5, 0, 0);
        dueMend(x, 1, 1, 5, 0, 1);
        dueMend(x, 1, 2, 5, 0, 2);
        dueMend(x, 1, 3, 5, 1, 0);
        dueMend(x, 1, 4, 5, 2, 0);
        Check.say(x, 2, 1, 1, 1);
        due("alike whichever goes", x.mend(2, -1, 0), 1);
        dueMend(x, 2, 0, 5, 1, 1);

        // by SOUND (2), by FORM (3), by OTHER (6) and OUT (5): 0 becomes 1 by all, 2 by FORM, 3 by OTHER
        OneWordWrong y = Check.laid("w1,0,0,0;w1,1,0,0;w1,1,0,1;w1,1,1,2;w0,1,3,3;r0,1,0,1,0;p1,2;");
        Check.say(y, 0, 0, 4);
        due("all ways", y.mend(0, -1, 0), 4);
        dueMend(y, 0, 0, 2, 1, 4);
        dueMend(y, 0, 1, 3, 2, 4);
        dueMend(y, 0, 2, 5, 4);
        dueMend(y, 0, 3, 6, 3, 4);
        due("the first is LEAST", y.least(0, false), 2);
        y.err(2);
        due("MENDS are by PRICES as told", y.mend(0, 0, 0), 2);

        // of alike PRICES the shorter is ahead
        OneWordWrong z = Check.laid("w1,0,0,0;r0,1,1,0,0;r0,0,0,0,0;");
        Check.say(z, 0, 0, 0, 0);
        due("shorter and longer", z.mend(0, -1, 0), 2);
        dueMend(z, 0, 0, 5, 0, 0);
        dueMend(z, 0, 1, 5, 0, 0, 0, 0);
        Check.say(z, 1, 0);
        due("one WORD can not go", z.mend(1, -1, 0), 1);
        dueMend(z, 1, 0, 5, 0, 0);
        Check.say(z, 2, 0, 0, 0, 0, 0, 0, 0);
        due("seven become six or eight", z.mend(2, -1, 0), 2);
        dueMend(z, 2, 0, 5, 0, 0, 0, 0, 0, 0);
        dueMend(z, 2, 1, 5, 0, 0, 0, 0, 0, 0, 0, 0);
        OneWordWrong nine = Check.laid("w1,0,0,0;w0,0,0,0;r0,0,1,0,0;r0,0,2,0,0;r2,1,1,0,0;");
        Check.say(nine, 0, 0, 0, 0, 0, 0, 0, 0, 0);
        due("eight can not become nine", nine.mend(0, -1, 0), 1);
        dueMend(nine, 0, 0, 3, 1, 0, 0, 0, 0, 0, 0, 0);
        OneWordWrong empty = Check.laid("w1,0,0,0;w0,0,1,1;");
        Check.say(empty, 0, 0);
        due("no way", empty.mend(0, -1, 0), 0);
        due("no first one", empty.mend(0, 0, 0), -4);
    }

    private static void promise13Forty() {
        OneWordWrong x = Check.laid(SIXTEEN);
        Check.say(x, 0, 5, 6, 7);
        // OUT: 56, 57, 67; IN: 61 rows of four
        due("forty at most", x.mend(0, -1, 0), 40);
        dueMend(x, 0, 0, 5, 5, 6);
        dueMend(x, 0, 1, 5, 5, 7);
        dueMend(x, 0, 2, 5, 6, 7);
        dueMend(x, 0, 3, 5, 0, 5, 6, 7);
        dueMend(x, 0, 7, 5, 4, 5, 6, 7);
        dueMend(x, 0, 8, 5, 5, 0, 6, 7);
        dueMend(x, 0, 13, 5, 5, 5, 6, 7);
        dueMend(x, 0, 14, 5, 5, 6, 0, 7);
        dueMend(x, 0, 20, 5, 5, 6, 6, 7);
        dueMend(x, 0, 21, 5, 5, 6, 7, 0);
        dueMend(x, 0, 36, 5, 5, 6, 7, 15);
        dueMend(x, 0, 37, 5, 5, 6, 8, 7);
        dueMend(x, 0, 39, 5, 5, 6, 10, 7);
        due("no more", x.mend(0, 40, 0), -4);
        due("nor HEAPS", x.heaps(0, 0, 0), 40);
        Check.say(x, 1, 9);
        due("one becomes two", x.mend(1, -1, 0), 31);
        dueMend(x, 1, 30, 5, 15, 9);
    }

    private static void promise13ManyTries() {
        // READ are two or more of KIND 1, then KIND 2, then KIND 1; all WORDS are FORMS of one another
        OneWordWrong x = Check.laid("w1,0,0,0;".repeat(14) + "w2,0,0,0;r3,1,1,0,0;r3,3,1,0,0;r0,3,4,0,0;r4,2,1,0,0;");
        Check.say(x, 0, 5, 5, 5, 5, 5, 5);
        due("one of 84, one of 105", x.mend(0, -1, 0), 2);
        dueMend(x, 0, 0, 3, 5, 5, 5, 5, 14, 5);
        dueMend(x, 0, 1, 5, 5, 5, 5, 5, 5, 14, 5);
        Check.say(x, 1, 5, 5, 5);
        due("of another", x.mend(1, -1, 0), 1);
        Check.say(x, 2, 5, 5, 14, 5);
        due("of the first again", x.mend(0, -1, 0), 2);
        due("KEPT", x.keep(1, 2), 0);
        due("of the first, when another is KEPT", x.mend(0, -1, 0), 2);
        due("and its HEAPS", x.heaps(0, 0, 0), 2);
    }

    private static void promise13Quoted() {
        OneWordWrong x = Check.laid(SMALL);
        Check.say(x, 0, 0, 3);
        due("before", x.mend(0, -1, 0), 2);
        x.quote(0, 1);
        due("the first is left", x.mend(0, -1, 0), 1);
        dueMend(x, 0, 0, 3, 0, 2);
        x.quote(0, 2);
        due("the second is left", x.mend(0, -1, 0), 1);
        dueMend(x, 0, 0, 3, 1, 3);
        x.quote(0, 3);
        due("both are left", x.mend(0, -1, 0), 0);
        x.quote(0, 252);
        due("places behind the end", x.mend(0, -1, 0), 2);
        Check.say(x, 1, 0, 2, 2);
        x.quote(1, 2);
        due("one of two alike goes", x.mend(1, -1, 0), 1);
        x.quote(1, 6);
        due("none of them goes", x.mend(1, -1, 0), 0);
        Check.say(x, 2, 2);
        x.quote(2, 1);
        due("IN all the same", x.mend(2, -1, 0), 2);
        x.clear(2);
        x.word(2, 3);
        due("MENDS of the new row", x.mend(2, 0, 2), 1);
    }

    private static void promise14Heaps() {
        OneWordWrong x = Check.laid(SMALL);
        Check.say(x, 0, 0, 2);
        due("READ", x.heaps(0, 0, 0), -2);
        due("empty", x.heaps(1, 0, 2), -2);
        Check.say(x, 1, 0, 3);
        due("one HEAP", x.heaps(1, 0, 0), 1);
        due("STANDS OUT by 99", x.heaps(1, 99, 1), 1);
        due("nothing to ask", x.heaps(1, 0, 2), -4);
        x.quote(1, 3);
        due("no MENDS", x.heaps(1, 0, 0), 0);
        due("none to stand out", x.heaps(1, 0, 1), -4);
        due("none to ask for", x.heaps(1, 0, 2), -4);
        due("d -1", x.heaps(1, -1, 0), -1);
        due("d 100", x.heaps(1, 100, 0), -1);
        due("d 99", x.heaps(1, 99, 0), 0);
        due("what -1", x.heaps(1, 0, -1), -1);
        due("what 3", x.heaps(1, 0, 3), -1);
        due("s -1", x.heaps(-1, 0, 0), -1);
        due("s 8", x.heaps(8, 0, 0), -1);
        due("BAD ahead of NO", x.heaps(0, 0, 3), -1);

        // MENDS by 2 (FAMILY 0), 3 (FAMILY 0), 5 (one WORD), 6 (FAMILY 1)
        OneWordWrong y = Check.laid("w1,0,0,0;w1,1,0,0;w1,1,0,1;w1,1,1,2;w0,1,3,3;r0,1,0,1,0;p1,2;");
        Check.say(y, 0, 0, 4);
        due("three HEAPS", y.heaps(0, 0, 0), 3);
        due("by 3", y.heaps(0, 3, 1), 1);
        due("not by 4", y.heaps(0, 4, 1), 0);
        // FAMILIES 0 3, 3, 1 3: place 0 parts all of them
        due("asked at the first", y.heaps(0, 0, 2), 0);
    }

    private static void promise14Asked() {
        // pairs of KIND 1 and 2; the second of the row may become one of three FAMILIES, the first is alike
        OneWordWrong x = Check.laid("w1,0,0,0;w2,1,1,1;w2,0,2,2;w2,0,3,3;w2,0,2,4;r0,1,2,1,0;");
        Check.say(x, 0, 0, 1);
        due("two FAMILIES", x.heaps(0, 0, 0), 2);
        due("asked at the second", x.heaps(0, 0, 2), 1);
        due("alike in PRICE, by 0", x.heaps(0, 0, 1), 1);
        due("not by 1", x.heaps(0, 1, 1), 0);

        // rows of two and four are READ; WORDS 0 and 1 of one FAMILY
        OneWordWrong y = Check.laid("w1,0,0,0;w1,0,0,0;r0,1,1,0,0;r0,0,0,0,0;");
        Check.say(y, 0, 0, 0, 0);
        due("two lengths", y.heaps(0, 0, 0), 2);
        due("behind the end of the one there is none: the third", y.heaps(0, 0, 2), 2);

        // 7 0 becomes 7 by OUT, 7 1, 7 2, and 3 0 by SOUND: FAMILIES 7, 7 1, 7 2, 3 0
        OneWordWrong z = Check.laid("w1,0,0,0;w1,1,1,0;w1,1,2,0;w3,1,7,7;w3,0,3,7;r0,3,1,1,0;r0,3,5,0,0;p1,4;w0,0,9,9;");
        Check.say(z, 0, 3, 0);
        due("three ways", z.mend(0, -1, 0), 3);
        due("three HEAPS", z.heaps(0, 0, 0), 3);
        // place 0: 7 7 3 (two alike), place 1: 1 2 0 (one)
        due("asked where they part most", z.heaps(0, 0, 2), 1);

        OneWordWrong sixteen = Check.laid(SIXTEEN);
        Check.say(sixteen, 0, 9);
        // 9 w and w 9, 31 rows: 16 with FAMILY 9 ahead, 16 with it behind
        due("31 HEAPS", sixteen.heaps(0, 0, 0), 31);
        due("of alike places the lowest", sixteen.heaps(0, 0, 2), 0);
    }

    private static void promise15Bars() {
        // a chain: 5 is 1 2, 6 is 5 3, 7 is 6 4, 0 is 7 8; all must agree, the MARK is that of the first
        String chain = "w1,0,0,0;w2,0,0,0;w2,1,0,0;w3,0,0,0;w3,2,0,0;w4,0,0,0;w4,3,0,0;w8,0,0,0;w8,1,0,0;"
                + "r9,9,9,0,0;r5,1,2,1,0;r6,5,3,1,0;r7,6,4,1,0;r0,7,8,1,0;";
        OneWordWrong x = Check.laid(chain);
        Check.say(x, 0, 0, 1, 3, 5, 7);
        due("READ", x.bars(0), 0);
        Check.say(x, 1, 0, 2, 3, 5, 7);
        due("the first agreement", x.bars(1), 2);
        Check.say(x, 1, 0, 1, 3, 5, 8);
        due("the last agreement", x.bars(1), 16);
        Check.say(x, 1, 0, 2, 3, 6, 7);
        due("two", x.bars(1), 2 | 8);
        Check.say(x, 1, 0, 2, 4, 5, 8);
        due("three", x.bars(1), 2 | 4 | 16);
        Check.say(x, 1, 0, 2, 4, 6, 8);
        due("four are too many", x.bars(1), -4);
        Check.say(x, 1, 1, 0);
        due("no agreement bars it", x.bars(1), -4);
        due("empty", x.bars(2), -2);
        due("s -1", x.bars(-1), -1);
        due("s 8", x.bars(8), -1);
        x.quote(1, 255);
        due("QUOTED or not", x.bars(1), -4);
    }

    private static void promise15BarsOfSeveral() {
        String words = "w1,0,0,0;w2,1,0,0;w3,1,0,0;w3,0,0,0;";
        OneWordWrong either = Check.laid(words + "r0,1,2,1,0;r0,1,2,1,1;");
        Check.say(either, 0, 0, 1);
        due("of two the least", either.bars(0), 1);
        OneWordWrong fewest = Check.laid(words + "r4,1,2,1,0;r0,4,3,1,0;r5,2,3,1,0;r9,9,9,1,1;r0,1,5,1,0;");
        Check.say(fewest, 0, 0, 1, 2);
        due("one RULE ahead of two", fewest.bars(0), 16);
        // freed, the MARK is that of the one that the RULE names
        OneWordWrong ofFirst = Check.laid(words + "r4,1,2,1,0;r0,4,3,1,0;");
        Check.say(ofFirst, 0, 0, 1, 2);
        due("MARK 0 against 1: both bar it", ofFirst.bars(0), 3);
        Check.say(ofFirst, 0, 0, 1, 3);
        due("MARK 0 against 0: one bars it", ofFirst.bars(0), 1);
        OneWordWrong ofSecond = Check.laid(words + "r4,1,2,1,1;r0,4,3,1,0;");
        Check.say(ofSecond, 0, 0, 1, 2);
        due("MARK 1 against 1: one bars it", ofSecond.bars(0), 1);
        Check.say(ofSecond, 0, 0, 1, 3);
        due("MARK 1 against 0: both bar it", ofSecond.bars(0), 3);
        // the last of 24 RULES, behind 23 others with a 1
        OneWordWrong last = Check.laid("w1,0,0,0;w1,1,0,0;" + "r9,9,9,1,0;".repeat(23) + "r0,1,1,1,0;");
        Check.say(last, 0, 0, 1);
        due("the 24th RULE", last.bars(0), 1 << 23);
        // 5 is 1 1, 6 is 5 1, 0 is 6 1: the last three of 24 RULES
        OneWordWrong three = Check.laid("w1,0,0,0;w1,1,0,0;" + "r9,9,9,1,0;".repeat(21) + "r5,1,1,1,0;r6,5,1,1,0;r0,6,1,1,0;");
        Check.say(three, 0, 0, 1, 1, 1);
        due("the last three RULES", three.bars(0), 7 << 21);
        OneWordWrong plain = Check.laid("w1,0,0,0;w1,1,0,0;r0,1,2,0,0;");
        Check.say(plain, 0, 0, 1);
        due("no RULE with a 1", plain.bars(0), -4);
    }
}
