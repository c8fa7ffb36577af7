/** The boundary cases of what is said of CHANGES, LEAST, MENDS, HEAPS and BARS: Terms, and promises 12 to 15. */
public final class EdgesOfMendsTest {
    private static final String SMALL = "r0,1,2,1,0;w1,0,0,0;w1,1,0,1;w2,0,1,2;w2,1,1,3;w1,0,2,3;";
    /** Sixteen WORDS; READ are rows of two and of four. */
    private static final String SIXTEEN = words(16) + "r0,1,1,0,0;r2,1,1,0,0;r0,2,2,0,0;";
    /** READ are rows with WORD 1 once and WORD 0 elsewhere; they are FORMS of each other. */
    private static final String ONE_OF = "w1,0,0,0;w0,0,0,1;r0,1,0,0,0;r0,0,1,0,0;";
    private static final int[] NO_SENTENCES = {-1, 8, 9, 255, 256, Integer.MIN_VALUE, Integer.MAX_VALUE};
    private static Edges edges;

    public static void main(String[] args) {
        edges = new Edges("EdgesOfMendsTest", args);
        edges.run(
                EdgesOfMendsTest::termsForm, EdgesOfMendsTest::termsSound, EdgesOfMendsTest::termsOther,
                EdgesOfMendsTest::termsOut, EdgesOfMendsTest::termsIn, EdgesOfMendsTest::termsQuoted,
                EdgesOfMendsTest::termsQuotedOut, EdgesOfMendsTest::termsAnyNumber, EdgesOfMendsTest::termsLongWays,
                EdgesOfMendsTest::termsChangedOnce,
                EdgesOfMendsTest::termsOneIsLeft, EdgesOfMendsTest::termsLeastNothing, EdgesOfMendsTest::termsLeastBy99,
                EdgesOfMendsTest::leastPrices, EdgesOfMendsTest::leastNone, EdgesOfMendsTest::leastBad,
                EdgesOfMendsTest::leastNo, EdgesOfMendsTest::termsOneToEight, EdgesOfMendsTest::termsEachChange,
                EdgesOfMendsTest::termsNotRead,
                EdgesOfMendsTest::termsRowOnce, EdgesOfMendsTest::termsOrder, EdgesOfMendsTest::termsForty,
                EdgesOfMendsTest::mendHowMany, EdgesOfMendsTest::mendOfTheIth, EdgesOfMendsTest::mendWords,
                EdgesOfMendsTest::mendNone, EdgesOfMendsTest::mendBad, EdgesOfMendsTest::mendNo, EdgesOfMendsTest::termsHeaps,
                EdgesOfMendsTest::termsStandsOut, EdgesOfMendsTest::termsStandsOutByPrice, EdgesOfMendsTest::termsAskedPlaces,
                EdgesOfMendsTest::termsAskedBehindTheEnd, EdgesOfMendsTest::termsAskedLowest, EdgesOfMendsTest::termsAskedNone,
                EdgesOfMendsTest::heapsWhat, EdgesOfMendsTest::heapsNone, EdgesOfMendsTest::heapsBad, EdgesOfMendsTest::heapsNo,
                EdgesOfMendsTest::termsBarsThree, EdgesOfMendsTest::termsBarsFewest, EdgesOfMendsTest::termsBarsWithAOne,
                EdgesOfMendsTest::termsBarsLeastBits, EdgesOfMendsTest::termsBarsRead, EdgesOfMendsTest::barsNone,
                EdgesOfMendsTest::barsBad, EdgesOfMendsTest::barsNo);
        edges.end(12, 15);
    }

    /** WORDS of KIND 1, each with a FAMILY and a SOUND of its own. */
    private static String words(int n) {
        StringBuilder text = new StringBuilder();
        for (int w = 0; w < n; w++) {
            text.append("w1,0," + w + "," + w + ";");
        }
        return text.toString();
    }

    private static void due(String call, long got, long want) {
        edges.due(call, got, want);
    }

    private static void dueMend(OneWordWrong x, int s, int i, int price, int... words) {
        String name = "mend " + i + " of " + s + ": ";
        due(name + "PRICE", x.mend(s, i, 0), price);
        due(name + "how many WORDS", x.mend(s, i, 1), words.length);
        for (int p = 0; p < words.length; p++) {
            due(name + "WORD " + p, x.mend(s, i, p + 2), words[p]);
        }
    }

    private static OneWordWrong said(String text, int... words) {
        OneWordWrong x = Check.laid(text);
        Check.say(x, 0, words);
        return x;
    }

    // ---- CHANGES

    private static void termsForm() {
        edges.of(Edges.TERMS, "FORM: a WORD becomes another one of its FAMILY");
        OneWordWrong x = said("w1,0,15,0;w0,0,15,1;w2,0,15,2;p0,7;", 0);
        due("another one", x.mend(0, -1, 0), 1);
        dueMend(x, 0, 0, 7, 1);
        due("it costs FORM", x.least(0, false), 7);
        due("none of another FAMILY", said("w1,0,15,0;w0,0,14,1;", 0).mend(0, -1, 0), 0);
        due("itself is no other", said("w1,0,15,0;w2,0,15,1;", 0).mend(0, -1, 0), 0);
    }

    private static void termsSound() {
        edges.of(Edges.TERMS, "SOUND: one of its SOUND");
        OneWordWrong x = said("w1,0,0,15;w0,0,1,15;w2,0,2,15;p1,7;", 0);
        due("another one", x.mend(0, -1, 0), 1);
        dueMend(x, 0, 0, 7, 1);
        due("it costs SOUND", x.least(0, false), 7);
        due("none of another SOUND", said("w1,0,0,15;w0,0,1,14;", 0).mend(0, -1, 0), 0);
    }

    private static void termsOther() {
        edges.of(Edges.TERMS, "OTHER: one of its KIND");
        OneWordWrong x = said("w9,0,0,0;w9,1,1,1;w8,1,2,2;r0,9,8,1,0;p2,7;p3,60;p4,60;", 0, 2);
        due("another one", x.mend(0, -1, 0), 1);
        dueMend(x, 0, 0, 7, 1, 2);
        due("it costs OTHER", x.least(0, false), 7);
        due("none of another KIND", said("w1,0,0,0;w0,0,1,1;", 0).mend(0, -1, 0), 0);
    }

    private static void termsOut() {
        edges.of(Edges.TERMS, "OUT: it goes");
        String text = "w0,0,0,0;w1,0,1,1;r0,0,0,0,0;p3,7;";
        for (int place = 0; place < 8; place++) {
            int[] row = new int[8];
            row[place] = 1;
            OneWordWrong x = said(text, row);
            due("at place " + place, x.mend(0, -1, 0), 1);
            dueMend(x, 0, 0, 7, 0, 0, 0, 0, 0, 0, 0);
            due("LEAST, at place " + place, x.least(0, false), 7);
        }
    }

    private static void termsIn() {
        edges.of(Edges.TERMS, "IN: a WORD is put somewhere");
        // READ is WORD 0 but for one place, where WORD 1 is: 3 are some 1, 4 are a 2 and some 1
        String text = "w1,0,0,0;w2,0,1,1;r3,1,1,0,0;r3,3,1,0,0;r4,2,1,0,0;r4,2,3,0,0;r0,1,4,0,0;r0,3,4,0,0;r0,2,3,0,0;r0,3,2,0,0;p4,7;";
        OneWordWrong between = said(text, 0, 0, 0, 0, 0, 0, 0);
        due("at eight places", between.mend(0, -1, 0), 8);
        for (int i = 0; i < 8; i++) {
            int[] row = new int[8];
            row[7 - i] = 1;
            dueMend(between, 0, i, 7, row);
        }
        due("LEAST", between.least(0, false), 7);
        OneWordWrong ahead = said("w1,0,0,0;w2,0,1,1;r0,1,2,0,0;", 1);
        dueMend(ahead, 0, 0, 5, 0, 1);
        OneWordWrong behind = said("w1,0,0,0;w2,0,1,1;r0,1,2,0,0;", 0);
        dueMend(behind, 0, 0, 5, 0, 1);
    }

    private static void termsQuoted() {
        edges.of(Edges.TERMS, "QUOTED places of a SENTENCE (bits by places) are left as they are: no change of that WORD");
        OneWordWrong x = said(ONE_OF, 0, 0, 0, 0, 0, 0, 0, 0);
        due("nothing QUOTED", x.mend(0, -1, 0), 8);
        for (int place = 0; place < 8; place++) {
            x.quote(0, 1 << place);
            due("place " + place + " is QUOTED", x.mend(0, -1, 0), 7);
            int changed = 0;
            for (int i = 0; i < 7; i++) {
                changed += x.mend(0, i, 2 + place);
            }
            due("it is left alone in all", changed, 0);
            x.quote(0, 255 - (1 << place));
            due("all but " + place + " are QUOTED", x.mend(0, -1, 0), 1);
            due("it is changed", x.mend(0, 0, 2 + place), 1);
            due("LEAST is FORM", x.least(0, false), 3);
        }
        x.quote(0, 255);
        due("all are QUOTED", x.mend(0, -1, 0), 0);
        x.quote(0, 0);
        due("none any more", x.mend(0, -1, 0), 8);
        OneWordWrong one = said("w1,0,0,0;w0,0,0,1;p4,60;p3,60;", 0);
        one.quote(0, 254);
        due("places behind the end", one.least(0, false), 3);
        due("MENDS too", one.mend(0, -1, 0), 1);
        one.quote(0, 1);
        due("its only WORD", one.least(0, false), -4);
    }

    private static void termsQuotedOut() {
        edges.of(Edges.TERMS, "it does not go out");
        OneWordWrong x = said("w1,0,0,0;r0,1,1,0,0;", 0, 0, 0);
        for (int places = 0; places < 8; places++) {
            x.quote(0, places);
            due("MENDS with " + places, x.mend(0, -1, 0), places == 7 ? 0 : 1);
            due("LEAST with " + places, x.least(0, false), places == 7 ? -4 : 5);
        }
        x.quote(0, 248);
        due("places behind the end", x.mend(0, -1, 0), 1);
        OneWordWrong in = said("w1,0,0,0;w2,0,1,1;r0,1,2,0,0;", 0);
        in.quote(0, 255);
        due("what is put in beside is no change of it", in.mend(0, -1, 0), 1);
        due("LEAST too", in.least(0, false), 5);
    }

    // ---- LEAST

    private static void termsAnyNumber() {
        edges.of(Edges.TERMS, "the least sum of PRICES of changes, any number of them");
        String forms = "w1,0,0,0;w0,0,0,1;r0,0,0,0,0;p3,60;p4,60;";
        for (int n = 1; n <= 8; n++) {
            due("FORM of " + n, said(forms, new int[n]).least(0, false), 3 * n);
        }
        String outs = "w1,0,0,0;w0,0,1,1;p3,9;p4,60;";
        for (int n = 1; n < 8; n++) {
            int[] row = new int[n + 1];
            row[n / 2] = 1;
            due(n + " go out", said(outs, row).least(0, false), 9 * n);
        }
        // 0 is two of 1, that is two of 2, .. : 64 WORDS in all
        String ins = "w6,0,0,0;r0,1,1,0,0;r1,2,2,0,0;r2,3,3,0,0;r3,4,4,0,0;r4,5,5,0,0;r5,6,6,0,0;p4,1;";
        due("63 are put in", said(ins, 0).least(0, false), 63);
        due("56 are put in", said(ins, 0, 0, 0, 0, 0, 0, 0, 0).least(0, false), 56);
        due("one of each: FORM, OUT, IN",
                said("w1,0,0,0;w2,0,0,1;w3,0,2,2;w4,0,3,3;r0,2,4,0,0;p0,1;p3,2;p4,4;", 0, 2).least(0, false), 7);
    }

    /**
     * Stairs of seven KINDS, 3 to 9, by a WORD 1 each; from the top down to the first once more, now with the MARK of WORD 1;
     * with that the top and WORD 2 are READ. The last step is told first, so each needs to be gone through for itself.
     */
    private static String stairs(boolean behind) {
        StringBuilder text = new StringBuilder("w3,0,0,0;w1,1,1,1;w2,1,2,2;");
        text.append(behind ? "r0,9,2,1,0;r3,9,1,0,1;" : "r0,2,9,1,1;r3,1,9,0,0;");
        for (int kind = 8; kind >= 3; kind--) {
            text.append(behind ? "r" + (kind + 1) + "," + kind + ",1,0,0;" : "r" + (kind + 1) + ",1," + kind + ",0,1;");
        }
        return text.toString();
    }

    private static void termsLongWays() {
        edges.of(Edges.TERMS, "any number of them");
        for (boolean behind : new boolean[] {true, false}) {
            String text = stairs(behind);
            due("the foot is left, 14 put in", said(text + "p4,1;", 0).least(0, false), 14);
            due("the end is left, 14 put in", said(text + "p4,1;", 2).least(0, false), 14);
            due("a step is left, 14 put in", said(text + "p4,1;", 1).least(0, false), 14);
            int[] ends = behind ? new int[] {0, 2} : new int[] {2, 0};
            due("both are left, 13 put in", said(text + "p4,1;", ends).least(0, false), 13);
            due("by 98", said(text + "p4,7;", 0).least(0, false), 98);
            due("by 98 ahead of the end", said(text + "p4,7;", 2).least(0, false), 98);
            due("by 112", said(text + "p4,8;", 0).least(0, false), -4);
            due("for nothing", said(text + "p4,0;", 2).least(0, false), 0);
            due("one goes out", said(text + "p3,2;p4,1;", ends[1], ends[0]).least(0, false), 16);
        }
    }

    private static void termsChangedOnce() {
        edges.of(Edges.TERMS, "each WORD changed once at most, what is put in not at all");
        // 0 sounds like 1, 1 is a FORM of 2, that is READ
        String text = "w1,0,0,0;w2,0,1,0;w0,0,1,1;p0,1;p1,1;p2,1;p3,40;p4,45;";
        due("0 can not become 1, then 2", said(text, 0).least(0, false), 85);
        due("1 can become 2", said(text, 1).least(0, false), 1);
        due("changed and then out is OUT", said(text, 2, 0).least(0, false), 40);
        due("what is put in costs IN alone", said("w1,0,0,0;w2,0,1,1;r0,1,2,0,0;p0,0;p1,0;p2,0;", 0).least(0, false), 5);
    }

    private static void termsOneIsLeft() {
        edges.of(Edges.TERMS, "one WORD at least is left or put in");
        due("nothing is no SENTENCE", said("w1,0,0,0;p3,0;p4,0;", 0).least(0, false), -4);
        due("one is put in", said("w1,0,0,0;w0,0,1,1;p3,0;p4,7;", 0).least(0, false), 7);
        due("one is left", said("w1,0,0,0;w0,0,1,1;p3,1;p4,7;", 0, 1, 0).least(0, false), 2);
        due("all of eight go, one is put in", said("w1,0,0,0;w0,0,1,1;p3,2;p4,7;", 0, 0, 0, 0, 0, 0, 0, 0).least(0, false), 23);
    }

    private static void termsLeastNothing() {
        edges.of(Edges.TERMS, "by which it is READ; 0, if it is");
        OneWordWrong x = said(SMALL, 0, 2);
        due("READ", x.least(0, false), 0);
        x.quote(0, 255);
        due("READ and QUOTED", x.least(0, false), 0);
        x.err(4);
        due("READ, by FITTED PRICES", x.least(0, true), 0);
        OneWordWrong one = said("w0,3,0,0;", 0);
        due("one WORD", one.least(0, false), 0);
        due("a change for nothing", said("w1,0,0,0;w0,0,0,1;p0,0;", 0).least(0, false), 0);
        due("a change for 1", said("w1,0,0,0;w0,0,0,1;p0,1;", 0).least(0, false), 1);
    }

    private static void termsLeastBy99() {
        edges.of(Edges.TERMS, "none, if it can't be by 99");
        due("one change for 99", said("w1,0,0,0;w0,0,0,1;p0,99;p3,99;p4,99;", 0).least(0, false), 99);
        due("two for 99", said("w1,0,0,0;w0,0,1,1;p3,50;p4,49;", 0).least(0, false), 99);
        due("two for 100", said("w1,0,0,0;w0,0,1,1;p3,50;p4,50;", 0).least(0, false), -4);
        due("two for 198", said("w1,0,0,0;w0,0,1,1;p3,99;p4,99;", 0).least(0, false), -4);
        due("three for 99", said("w1,0,0,0;w0,0,0,1;r0,0,0,0,0;p0,33;p3,99;p4,99;", 0, 0, 0).least(0, false), 99);
        due("three for 102", said("w1,0,0,0;w0,0,0,1;r0,0,0,0,0;p0,34;p3,99;p4,99;", 0, 0, 0).least(0, false), -4);
        String doubled = "w7,0,0,0;r0,1,1,0,0;r1,2,2,0,0;r2,3,3,0,0;r3,4,4,0,0;r4,5,5,0,0;r5,6,6,0,0;r6,7,7,0,0;";
        due("127 are put in for 1 each", said(doubled + "p4,1;", 0).least(0, false), -4);
        due("127 are put in for nothing", said(doubled + "p4,0;", 0).least(0, false), 0);
        due("a MEND for 99 is one", said("w1,0,0,0;w0,0,0,1;p0,99;", 0).mend(0, 0, 0), 99);
    }

    private static void leastPrices() {
        edges.of(12, "LEAST, by PRICES as told or FITTED.");
        OneWordWrong x = said(SMALL + "p0,8;", 0, 3);
        due("as told", x.least(0, false), 6);
        due("FITTED without errors: as told", x.least(0, true), 6);
        x.err(0);
        due("FITTED to FORM", x.least(0, true), 1);
        due("as told all the same", x.least(0, false), 6);
        x.quote(0, 3);
        due("QUOTED by FITTED", x.least(0, true), -4);
        OneWordWrong y = said("w1,0,0,0;w0,0,0,1;p0,0;", 0);
        y.err(3);
        due("FITTED may be dearer: OUT 1 and IN 10, FORM 10", y.least(0, true), 10);
        due("than told", y.least(0, false), 0);
    }

    private static void leastNone() {
        edges.of(12, "NONE");
        due("no KIND 0", said("w1,0,0,0;r1,1,1,0,0;", 0).least(0, false), -4);
        due("no KIND 0, in eight", said("w1,0,0,0;r1,1,1,0,0;", 0, 0, 0, 0, 0, 0, 0, 0).least(0, false), -4);
        OneWordWrong x = said("w0,0,0,0;w1,0,1,1;", 0, 1);
        due("one goes", x.least(0, false), 5);
        x.quote(0, 2);
        due("it is QUOTED", x.least(0, false), -4);
        due("FITTED too", x.least(0, true), -4);
        OneWordWrong y = said("w0,0,0,0;", 0, 0, 0, 0, 0, 0, 0, 0);
        y.quote(0, 255);
        due("all of eight are QUOTED", y.least(0, false), -4);
        y.quote(0, 254);
        due("all but the first", y.least(0, false), -4);
        y.quote(0, 1);
        due("seven go", y.least(0, false), 35);
    }

    private static void leastBad() {
        edges.of(12, "BAD");
        OneWordWrong x = said(SMALL, 0, 2);
        Check.say(x, 7, 0, 3);
        for (int s : NO_SENTENCES) {
            due("s " + s, x.least(s, false), -1);
            due("s " + s + ", FITTED", x.least(s, true), -1);
        }
        due("s 0", x.least(0, false), 0);
        due("s 7", x.least(7, false), 3);
    }

    private static void leastNo() {
        edges.of(12, "NO: it is empty.");
        OneWordWrong x = Check.laid("w0,0,0,0;p4,1;");
        due("empty", x.least(0, false), -2);
        due("empty, FITTED", x.least(0, true), -2);
        x.quote(0, 255);
        due("empty and QUOTED", x.least(0, false), -2);
        x.word(0, 0);
        due("one WORD", x.least(0, false), 0);
        x.clear(0);
        due("cleared", x.least(0, false), -2);
    }

    // ---- MENDS

    private static void termsOneToEight() {
        edges.of(Edges.TERMS, "MENDS: SENTENCES that one change makes (of 1 to 8 WORDS) and that are READ");
        due("one WORD can not go", said("w1,0,0,0;w0,0,1,1;p3,0;", 0).mend(0, -1, 0), 0);
        OneWordWrong two = said("w1,0,0,0;w0,0,1,1;", 0, 1);
        due("one of two can", two.mend(0, -1, 0), 1);
        dueMend(two, 0, 0, 5, 1);
        String rows = "w1,0,0,0;r2,1,1,0,0;r0,2,2,0,0;r0,0,2,0,0;";
        OneWordWrong seven = said(rows, 0, 0, 0, 0, 0, 0, 0);
        due("seven become six and eight", seven.mend(0, -1, 0), 2);
        dueMend(seven, 0, 0, 5, 0, 0, 0, 0, 0, 0);
        dueMend(seven, 0, 1, 5, 0, 0, 0, 0, 0, 0, 0, 0);
        // READ are nine of KIND 1, or seven
        String nine = "w1,0,0,0;r2,1,1,0,0;r3,2,1,0,0;r4,2,2,0,0;r5,4,3,0,0;r0,4,3,0,0;r0,5,2,0,0;";
        OneWordWrong eight = said(nine, 0, 0, 0, 0, 0, 0, 0, 0);
        due("eight can not become nine", eight.mend(0, -1, 0), 1);
        dueMend(eight, 0, 0, 5, 0, 0, 0, 0, 0, 0, 0);
        due("what one change makes must be READ", said(nine, 0, 0, 0).mend(0, -1, 0), 0);
        due("two changes are no MEND", said("w1,0,0,0;w0,0,0,1;r0,0,0,0,0;p3,0;", 0, 0).mend(0, -1, 0), 0);
    }

    /** So many WORDS that sound alike, of which one is of KIND 2; READ are rows with that one once. */
    private static String justOneOf(int words, int one) {
        StringBuilder text = new StringBuilder("r3,1,1,0,0;r3,3,1,0,0;r0,2,1,0,0;r0,1,2,0,0;r0,3,2,0,0;r0,0,1,0,0;");
        for (int w = 0; w < words; w++) {
            text.append(w == one ? "w2,0," : "w1,0,").append(w).append(",0;");
        }
        return text.toString();
    }

    private static void termsEachChange() {
        edges.of(Edges.TERMS, "SENTENCES that one change makes");
        for (int words = 2; words <= 16; words++) {
            for (int one = 0; one < words; one++) {
                int plain = one == 0 ? 1 : 0;
                String call = "WORD " + one + " of " + words;
                OneWordWrong x = Check.laid(justOneOf(words, one));
                for (int n = 1; n < 8; n++) {
                    x.word(0, plain);
                }
                due(call + " at seven places or put in at eight", x.mend(0, -1, 0), 15);
                due(call + " at eight places", x.word(0, plain), 8);
                due(call + " at eight places", x.mend(0, -1, 0), 8);
                for (int i = 0; i < 8; i++) {
                    due(call + " MEND " + i, x.mend(0, i, 2 + (one < plain ? i : 7 - i)), one);
                }
            }
        }
    }

    private static void termsNotRead() {
        edges.of(Edges.TERMS, "of a SENTENCE that is not READ");
        OneWordWrong x = said("w0,0,0,0;w0,1,0,0;r0,0,0,1,0;", 0, 0);
        due("READ, though changes make others that are", x.mend(0, -1, 0), -2);
        due("no HEAPS of it", x.heaps(0, 0, 0), -2);
        x.clear(0);
        x.word(0, 0);
        x.word(0, 1);
        due("not READ", x.mend(0, -1, 0), 4);
        dueMend(x, 0, 0, 3, 0, 0);
        dueMend(x, 0, 1, 3, 1, 1);
        dueMend(x, 0, 2, 5, 0);
        dueMend(x, 0, 3, 5, 1);
    }

    private static void termsRowOnce() {
        edges.of(Edges.TERMS, "each row of WORDS once, with the least PRICE that makes it");
        String text = "w1,0,0,0;w1,1,0,0;w2,1,1,1;r0,1,2,1,0;p3,60;p4,60;";
        int[][] prices = {{5, 6, 7, 5}, {6, 5, 7, 5}, {7, 6, 5, 5}, {5, 5, 5, 5}, {0, 99, 99, 0}, {99, 99, 0, 0}, {99, 0, 99, 0}};
        for (int[] p : prices) {
            OneWordWrong x = said(text + "p0," + p[0] + ";p1," + p[1] + ";p2," + p[2] + ";", 0, 2);
            due("by FORM, SOUND and OTHER, once", x.mend(0, -1, 0), 1);
            dueMend(x, 0, 0, p[3], 1, 2);
        }
        OneWordWrong out = said("w1,0,0,0;r0,1,1,0,0;", 0, 0, 0);
        due("whichever goes, once", out.mend(0, -1, 0), 1);
        OneWordWrong in = said("w1,0,0,0;w1,0,1,1;r0,1,1,0,0;", 0);
        due("ahead and behind", in.mend(0, -1, 0), 3);
        dueMend(in, 0, 0, 5, 0, 0);
        dueMend(in, 0, 1, 5, 0, 1);
        dueMend(in, 0, 2, 5, 1, 0);
        // WORDS that are told alike are WORDS of their own
        OneWordWrong twins = said("w1,0,0,0;w0,0,0,1;w0,0,0,1;", 0);
        due("alike, but two WORDS", twins.mend(0, -1, 0), 2);
    }

    private static void termsOrder() {
        edges.of(Edges.TERMS, "by PRICE, then the shorter ahead, then by WORDS from the first on, the lower ahead");
        OneWordWrong length = said("w1,0,0,0;r0,1,1,0,0;r0,0,0,0,0;p3,7;p4,7;", 0, 0, 0);
        dueMend(length, 0, 0, 7, 0, 0);
        dueMend(length, 0, 1, 7, 0, 0, 0, 0);
        OneWordWrong price = said("w1,0,0,0;r0,1,1,0,0;r0,0,0,0,0;p3,8;p4,7;", 0, 0, 0);
        dueMend(price, 0, 0, 7, 0, 0, 0, 0);
        dueMend(price, 0, 1, 8, 0, 0);
        // OUT, FORM and IN for 5 each: READ are 1 1, 1 1 2 and 1 1 1 1
        OneWordWrong all = said("w1,0,0,0;w2,0,0,1;r0,1,1,0,0;r3,1,1,0,0;r0,3,2,0,0;r0,3,3,0,0;p0,5;", 0, 0, 0);
        due("three lengths", all.mend(0, -1, 0), 3);
        dueMend(all, 0, 0, 5, 0, 0);
        dueMend(all, 0, 1, 5, 0, 0, 1);
        dueMend(all, 0, 2, 5, 0, 0, 0, 0);
        OneWordWrong sixteen = said(SIXTEEN + "p3,9;", 10);
        due("31 ways", sixteen.mend(0, -1, 0), 31);
        for (int w = 0; w < 10; w++) {
            dueMend(sixteen, 0, w, 5, w, 10);
        }
        for (int w = 0; w < 16; w++) {
            dueMend(sixteen, 0, 10 + w, 5, 10, w);
        }
        for (int w = 11; w < 16; w++) {
            dueMend(sixteen, 0, 15 + w, 5, w, 10);
        }
    }

    private static void termsForty() {
        edges.of(Edges.TERMS, "40 at most, the first");
        OneWordWrong x = said(SIXTEEN + "p3,9;", 5, 6, 7);
        due("61 by IN, 3 by OUT", x.mend(0, -1, 0), 40);
        dueMend(x, 0, 0, 5, 0, 5, 6, 7);
        dueMend(x, 0, 33, 5, 5, 6, 7, 15);
        dueMend(x, 0, 34, 5, 5, 6, 8, 7);
        dueMend(x, 0, 39, 5, 5, 6, 13, 7);
        due("no 41st", x.mend(0, 40, 0), -4);
        due("HEAPS of these alone", x.heaps(0, 0, 0), 40);
        OneWordWrong cheap = said(SIXTEEN + "p3,1;", 5, 6, 7);
        dueMend(cheap, 0, 0, 1, 5, 6);
        dueMend(cheap, 0, 2, 1, 6, 7);
        dueMend(cheap, 0, 3, 5, 0, 5, 6, 7);
        dueMend(cheap, 0, 39, 5, 5, 6, 10, 7);
        due("no 41st of these", cheap.mend(0, 40, 0), -4);
        // one of 14 WORDS is put at one of three places, two rows come twice
        OneWordWrong just = said(words(14) + "r2,1,1,0,0;r0,2,1,0,0;", 0, 1);
        due("just forty", just.mend(0, -1, 0), 40);
        dueMend(just, 0, 39, 5, 13, 0, 1);
        due("no 41st of just forty", just.mend(0, 40, 0), -4);
        // one of 11 WORDS is put at one of four places, three rows come twice
        OneWordWrong more = said(words(11) + "r2,1,1,0,0;r0,2,2,0,0;", 0, 1, 2);
        due("41", more.mend(0, -1, 0), 40);
        dueMend(more, 0, 39, 5, 9, 0, 1, 2);
        due("the 41st is none", more.mend(0, 40, 0), -4);
    }

    private static void mendHowMany() {
        edges.of(13, "how many (i = -1)");
        OneWordWrong x = said(SMALL, 0, 3);
        for (int what = 0; what <= 9; what++) {
            due("whatever is asked for: " + what, x.mend(0, -1, what), 2);
        }
        x.quote(0, 3);
        due("none", x.mend(0, -1, 0), 0);
        Check.say(x, 7, 2);
        due("of the last SENTENCE", x.mend(7, -1, 0), 2);
        due("of the first again", x.mend(0, -1, 0), 0);
        x.quote(0, 0);
        due("nothing QUOTED any more", x.mend(0, -1, 0), 2);
        x.word(0, 2);
        due("a WORD more", x.mend(0, -1, 0), 1);
        x.word(0, 2);
        due("two WORDS more", x.mend(0, -1, 0), 0);
    }

    private static void mendOfTheIth() {
        edges.of(13, "MENDS (by PRICES as told)");
        OneWordWrong x = said(SMALL, 4, 3);
        dueMend(x, 0, 0, 3, 4, 2);
        dueMend(x, 0, 1, 6, 1, 3);
        for (int k = 0; k < 60; k++) {
            x.err(2);
        }
        due("LEAST is FITTED", x.least(0, true), 1);
        dueMend(x, 0, 0, 3, 4, 2);
        dueMend(x, 0, 1, 6, 1, 3);
    }

    private static void mendWords() {
        edges.of(13, "of the i-th: PRICE (what = 0), how many WORDS (1), WORDS (2 to 9; NONE beyond).");
        OneWordWrong full = said("w1,0,0,0;w2,0,1,1;r2,2,2,0,0;r0,1,2,0,0;p4,7;", 1, 1, 1, 1, 1, 1, 1);
        due("PRICE", full.mend(0, 0, 0), 7);
        due("how many WORDS", full.mend(0, 0, 1), 8);
        due("the first", full.mend(0, 0, 2), 0);
        for (int what = 3; what <= 9; what++) {
            due("WORD " + what, full.mend(0, 0, what), 1);
        }
        OneWordWrong one = said("w1,0,0,0;w0,0,0,1;p0,99;p4,99;", 0);
        due("PRICE 99", one.mend(0, 0, 0), 99);
        due("one WORD", one.mend(0, 0, 1), 1);
        due("it", one.mend(0, 0, 2), 1);
        for (int what = 3; what <= 9; what++) {
            due("beyond: " + what, one.mend(0, 0, what), -4);
        }
        due("PRICE 0", said("w1,0,0,0;w0,0,0,1;p0,0;", 0).mend(0, 0, 0), 0);
    }

    private static void mendNone() {
        edges.of(13, "NONE; BAD");
        OneWordWrong x = said(SMALL, 0, 3);
        for (int what = 0; what <= 9; what++) {
            due("the first behind the last, what " + what, x.mend(0, 2, what), -4);
        }
        due("the last", x.mend(0, 1, 0), 3);
        due("the 40th", x.mend(0, 39, 0), -4);
        due("the 41st", x.mend(0, 40, 0), -4);
        due("a great one", x.mend(0, Integer.MAX_VALUE, 2), -4);
        x.quote(0, 3);
        due("the first of none", x.mend(0, 0, 0), -4);
        due("its first WORD", x.mend(0, 0, 2), -4);
    }

    private static void mendBad() {
        edges.of(13, "BAD");
        OneWordWrong x = said(SMALL, 0, 3);
        for (int s : NO_SENTENCES) {
            due("s " + s, x.mend(s, -1, 0), -1);
            due("s " + s + ", the first", x.mend(s, 0, 0), -1);
        }
        for (int i : new int[] {-2, -3, Integer.MIN_VALUE}) {
            due("i " + i, x.mend(0, i, 0), -1);
        }
        for (int what : new int[] {-1, 10, 11, Integer.MIN_VALUE, Integer.MAX_VALUE}) {
            due("what " + what, x.mend(0, 0, what), -1);
            due("what " + what + ", beyond", x.mend(0, 99, what), -1);
            due("what " + what + " of an empty one", x.mend(1, 0, what), -1);
        }
        due("s 7 is told", x.mend(7, 0, 9), -2);
    }

    private static void mendNo() {
        edges.of(13, "NO: it is empty, READ.");
        OneWordWrong x = said(SMALL, 0, 2);
        for (int i : new int[] {-1, 0, 39, 40, Integer.MAX_VALUE}) {
            due("READ, i " + i, x.mend(0, i, 0), -2);
            due("empty, i " + i, x.mend(1, i, 9), -2);
        }
        x.word(0, 0);
        due("not READ any more", x.mend(0, -1, 0), 1);
        x.clear(0);
        due("empty now", x.mend(0, -1, 0), -2);
    }

    // ---- HEAPS

    private static void termsHeaps() {
        edges.of(Edges.TERMS, "HEAPS: MENDS with one row of FAMILIES, by their first MENDS.");
        due("two MENDS, one row of FAMILIES", said(SMALL, 0, 3).heaps(0, 0, 0), 1);
        due("no MENDS", said("w1,0,0,0;", 0).heaps(0, 0, 0), 0);
        OneWordWrong lengths = said("w1,0,0,0;w1,0,0,0;r0,1,1,0,0;r0,0,0,0,0;", 0, 0, 0);
        due("one FAMILY, two lengths", lengths.heaps(0, 0, 0), 2);
        // FAMILY 0 behind the end is none
        OneWordWrong zero = said("w0,0,1,0;w2,0,0,1;w1,0,9,1;r0,0,2,0,0;", 0, 2);
        due("FAMILIES 1 0, by SOUND, and 1, by OUT", zero.heaps(0, 0, 0), 2);
        OneWordWrong sixteen = said(SIXTEEN, 5, 6, 7);
        due("forty, each a HEAP", sixteen.heaps(0, 0, 0), 40);
    }

    private static void termsStandsOut() {
        edges.of(Edges.TERMS, "STANDS OUT: there is just one HEAP");
        OneWordWrong x = said(SMALL, 0, 3);
        due("one HEAP of two MENDS", x.mend(0, -1, 0), 2);
        due("by 0", x.heaps(0, 0, 1), 1);
        due("by 1", x.heaps(0, 1, 1), 1);
        due("by 99", x.heaps(0, 99, 1), 1);
        due("two HEAPS for one PRICE", said(SIXTEEN, 5).heaps(0, 99, 1), 0);
    }

    private static void termsStandsOutByPrice() {
        edges.of(Edges.TERMS, "or the first MEND of the second costs D (0 to 99) more than that of the first at least");
        // 0 3 becomes 1 3 by FORM, 3 by OUT, 2 3 by OTHER
        String text = "w1,0,0,0;w1,1,0,1;w1,1,1,2;w0,1,3,3;r0,1,0,1,0;p2,99;";
        int[][] prices = {{0, 99}, {0, 98}, {0, 1}, {0, 0}, {1, 99}, {5, 7}, {7, 5}};
        for (int[] p : prices) {
            OneWordWrong x = said(text + "p0," + p[0] + ";p3," + p[1] + ";", 0, 3);
            due("three HEAPS", x.heaps(0, 0, 0), 3);
            int more = Math.abs(p[1] - p[0]);
            due("by 0", x.heaps(0, 0, 1), 1);
            due("by " + more, x.heaps(0, more, 1), 1);
            if (more < 99) {
                due("by " + (more + 1), x.heaps(0, more + 1, 1), 0);
                due("by 99", x.heaps(0, 99, 1), 0);
            }
        }
        // MENDS for 2 and 3 in the first HEAP, then 5 in the second
        OneWordWrong y = said("w1,0,0,0;w1,1,0,0;w1,1,0,1;w1,1,1,2;w0,1,3,3;r0,1,0,1,0;p1,2;", 0, 4);
        due("the second MEND is of the first HEAP", y.heaps(0, 2, 1), 1);
        due("the third is 3 more", y.heaps(0, 3, 1), 1);
        due("not 4 more", y.heaps(0, 4, 1), 0);
    }

    private static void termsAskedPlaces() {
        edges.of(Edges.TERMS, "ASKED: the place (0 to 7) at which the greatest number of HEAPS with one FAMILY");
        due("place 0", said("w1,0,0,0;w0,0,1,0;w0,0,2,0;", 0).heaps(0, 0, 2), 0);
        // seven of KIND 1, and one behind them that sounds like two of KIND 2
        OneWordWrong last = said("w1,0,0,0;w4,0,1,1;w2,0,2,1;w2,0,3,1;r3,1,1,0,0;r3,3,1,0,0;r0,3,2,0,0;", 0, 0, 0, 0, 0, 0, 0, 1);
        due("two HEAPS", last.heaps(0, 0, 0), 2);
        due("place 7", last.heaps(0, 0, 2), 7);
        // 3 0 becomes 3 1, 3 2 and 4 0: FAMILIES 7 1, 7 2, 3 0
        OneWordWrong most = said("w1,0,0,0;w1,1,1,0;w1,1,2,0;w3,1,7,7;w3,0,3,7;r0,3,1,1,0;", 3, 0);
        due("three HEAPS", most.heaps(0, 0, 0), 3);
        due("two with FAMILY 7 at place 0, one each at place 1", most.heaps(0, 0, 2), 1);
        // FAMILIES 0 and 15 are parted
        due("FAMILIES 0 and 15", said("w1,0,9,0;w0,0,0,0;w0,0,15,0;", 0).heaps(0, 0, 2), 0);
    }

    private static void termsAskedBehindTheEnd() {
        edges.of(Edges.TERMS, "(none behind the end) is least");
        // rows of two and of four in FAMILY 0: place 2 parts them
        OneWordWrong x = said("w1,0,0,0;r0,1,1,0,0;r0,0,0,0,0;", 0, 0, 0);
        due("behind the end of the shorter", x.heaps(0, 0, 2), 2);
        OneWordWrong y = said("w1,0,15,0;r0,1,1,0,0;r0,0,0,0,0;", 0, 0, 0);
        due("in FAMILY 15 too", y.heaps(0, 0, 2), 2);
        // FAMILIES 1, 2 and 1 2 3: behind the end two are alike
        OneWordWrong z = said("w0,0,1,1;w0,0,2,2;w3,0,3,3;r0,0,5,0,0;r5,0,3,0,0;", 0, 1);
        due("three HEAPS", z.heaps(0, 0, 0), 3);
        due("two have none at place 1, two have FAMILY 1 at place 0", z.heaps(0, 0, 2), 0);
        // places behind the end of all part nothing
        OneWordWrong all = said("w1,0,0,0;w0,0,1,0;w0,0,2,0;", 0);
        due("places behind all ends", all.heaps(0, 0, 2), 0);
    }

    private static void termsAskedLowest() {
        edges.of(Edges.TERMS, "is least; the lowest");
        // 0 1 2 becomes 0 3 2 and 0 1 4: places 1 and 2 part them alike
        OneWordWrong x = said("w1,0,0,0;w2,0,1,1;w4,1,2,2;w2,1,3,1;w4,0,4,2;r5,2,4,1,0;r0,1,5,0,0;", 0, 1, 2);
        due("two HEAPS", x.heaps(0, 0, 0), 2);
        due("of places 1 and 2", x.heaps(0, 0, 2), 1);
        due("of places 0 and 1", said(SIXTEEN, 9).heaps(0, 0, 2), 0);
    }

    private static void termsAskedNone() {
        edges.of(Edges.TERMS, "none, if there are fewer than two");
        due("no HEAP", said("w1,0,0,0;", 0).heaps(0, 0, 2), -4);
        due("one HEAP of one MEND", said("w1,0,0,0;w0,0,0,0;", 0).heaps(0, 0, 2), -4);
        due("one HEAP of two MENDS", said(SMALL, 0, 3).heaps(0, 0, 2), -4);
        due("two HEAPS", said("w1,0,0,0;w0,0,0,1;w0,0,1,0;", 0).heaps(0, 0, 2), 0);
    }

    private static void heapsWhat() {
        edges.of(14, "HEAPS: how many (what = 0), 1 if the first STANDS OUT by d (1), ASKED (2).");
        OneWordWrong x = said("w1,0,0,0;w2,1,1,1;w2,0,2,2;w2,0,3,3;w2,0,2,4;r0,1,2,1,0;", 0, 1);
        due("how many", x.heaps(0, 0, 0), 2);
        due("how many, whatever d", x.heaps(0, 99, 0), 2);
        due("by 0", x.heaps(0, 0, 1), 1);
        due("by 1", x.heaps(0, 1, 1), 0);
        due("ASKED", x.heaps(0, 0, 2), 1);
        due("ASKED, whatever d", x.heaps(0, 99, 2), 1);
        x.quote(0, 2);
        due("QUOTED: no HEAPS", x.heaps(0, 0, 0), 0);
        x.quote(0, 1);
        due("QUOTED elsewhere", x.heaps(0, 0, 0), 2);
    }

    private static void heapsNone() {
        edges.of(14, "NONE: no MENDS (1, 2), fewer than two HEAPS (2)");
        OneWordWrong x = said(SMALL, 0, 3);
        due("one HEAP: how many", x.heaps(0, 0, 0), 1);
        due("one HEAP: it STANDS OUT", x.heaps(0, 0, 1), 1);
        due("one HEAP: nothing to ask", x.heaps(0, 0, 2), -4);
        x.quote(0, 3);
        due("no MENDS: how many", x.heaps(0, 0, 0), 0);
        due("no MENDS: by 0", x.heaps(0, 0, 1), -4);
        due("no MENDS: by 99", x.heaps(0, 99, 1), -4);
        due("no MENDS: ASKED", x.heaps(0, 0, 2), -4);
    }

    private static void heapsBad() {
        edges.of(14, "BAD");
        OneWordWrong x = said(SMALL, 0, 3);
        for (int s : NO_SENTENCES) {
            due("s " + s, x.heaps(s, 0, 0), -1);
        }
        for (int d : new int[] {-1, 100, 101, Integer.MIN_VALUE, Integer.MAX_VALUE}) {
            due("d " + d, x.heaps(0, d, 1), -1);
            due("d " + d + " of an empty one", x.heaps(1, d, 1), -1);
        }
        for (int what : new int[] {-1, 3, 4, Integer.MIN_VALUE, Integer.MAX_VALUE}) {
            due("what " + what, x.heaps(0, 0, what), -1);
            due("what " + what + " of an empty one", x.heaps(1, 0, what), -1);
        }
        due("d 0 and 99 are told", x.heaps(0, 0, 1) + x.heaps(0, 99, 1), 2);
    }

    private static void heapsNo() {
        edges.of(14, "NO.");
        OneWordWrong x = said(SMALL, 0, 2);
        for (int what = 0; what < 3; what++) {
            due("READ, what " + what, x.heaps(0, 0, what), -2);
            due("empty, what " + what, x.heaps(1, 99, what), -2);
        }
        x.clear(0);
        due("cleared", x.heaps(0, 0, 0), -2);
    }

    // ---- BARS

    /** A chain of four agreements: 5 is 1 2, 6 is 5 3, 7 is 6 4, 0 is 7 8; of WORDS 1 to 8 the even ones do not agree. */
    private static OneWordWrong chain(int... words) {
        return said("w1,0,0,0;w2,0,0,0;w2,1,0,0;w3,0,0,0;w3,2,0,0;w4,0,0,0;w4,3,0,0;w8,0,0,0;w8,1,0,0;"
                + "r9,9,9,0,0;r5,1,2,1,0;r6,5,3,1,0;r7,6,4,1,0;r0,7,8,1,0;", words);
    }

    private static void termsBarsThree() {
        edges.of(Edges.TERMS, "BARS: the fewest RULES with a 1 (3 at most) which need not agree so that it is READ");
        due("one", chain(0, 1, 3, 5, 8).bars(0), 16);
        due("two", chain(0, 2, 3, 6, 7).bars(0), 2 | 8);
        due("three", chain(0, 2, 4, 5, 8).bars(0), 2 | 4 | 16);
        due("the last three", chain(0, 1, 4, 6, 8).bars(0), 4 | 8 | 16);
        due("four are too many", chain(0, 2, 4, 6, 8).bars(0), -4);
        String far = "w1,0,0,0;w1,1,0,0;" + "r9,9,9,1,0;".repeat(21) + "r5,1,1,1,0;r6,5,1,1,0;r0,6,1,1,0;";
        due("the last three of 24", said(far, 0, 1, 1, 1).bars(0), 7 << 21);
        due("one RULE used twice is one", said("w1,0,0,0;w1,1,0,0;r1,1,1,1,0;r0,1,2,1,0;w2,0,0,0;", 0, 1, 1, 2).bars(0), 1);
    }

    private static void termsBarsFewest() {
        edges.of(Edges.TERMS, "BARS: the fewest RULES");
        // by the first two RULES, or by the fifth alone
        String text = "w1,0,0,0;w2,1,0,0;w3,1,0,0;r4,1,2,1,0;r0,4,3,1,0;r5,2,3,1,0;r9,9,9,1,1;r0,1,5,1,0;";
        due("one ahead of two", said(text, 0, 1, 2).bars(0), 16);
        // by RULES 0, 1 and 2, or by 3 and 4: 1 2 3 4 with MARKS 0 1 1 1, or 1 (2 (3 4)) ..
        String two = "w1,0,0,0;w2,1,0,0;w3,2,0,0;w4,3,0,0;r5,1,2,1,0;r6,5,3,1,0;r0,6,4,1,0;r7,1,2,1,0;r8,3,4,0,0;r0,7,8,1,0;";
        due("two ahead of three", said(two, 0, 1, 2, 3).bars(0), 8 | 32);
    }

    private static void termsBarsWithAOne() {
        edges.of(Edges.TERMS, "RULES with a 1 (3 at most)");
        due("a RULE with a 0 bars nothing", said("w1,0,0,0;w1,1,0,0;r0,1,2,0,0;", 0, 1).bars(0), -4);
        due("the one with a 1 behind it", said("w1,0,0,0;w1,1,0,0;r0,1,2,0,0;r0,1,1,1,0;", 0, 1).bars(0), 2);
        due("the 24th", said("w1,0,0,0;w1,1,0,0;" + "r9,9,9,0,0;".repeat(23) + "r0,1,1,1,0;", 0, 1).bars(0), 1 << 23);
        due("no RULES", said("w1,0,0,0;", 0).bars(0), -4);
        // freed, the MARK is that of the one that h names
        String words = "w1,0,0,0;w2,1,0,0;w3,1,0,0;";
        due("h 0: both bar it", said(words + "r4,1,2,1,0;r0,4,3,1,0;", 0, 1, 2).bars(0), 3);
        due("h 1: one bars it", said(words + "r4,1,2,1,1;r0,4,3,1,0;", 0, 1, 2).bars(0), 1);
    }

    private static void termsBarsLeastBits() {
        edges.of(Edges.TERMS, "of several the least bits (by RULES)");
        String words = "w1,0,0,0;w2,1,0,0;";
        due("of two", said(words + "r0,1,2,1,0;r0,1,2,1,1;", 0, 1).bars(0), 1);
        due("of 24", said(words + "r0,1,2,1,0;".repeat(24), 0, 1).bars(0), 1);
        due("of the last two of 24", said(words + "r9,9,9,1,0;".repeat(22) + "r0,1,2,1,0;r0,1,2,1,1;", 0, 1).bars(0), 1 << 22);
        // by RULES 0 and 3, or by 1 and 2: 9 and 6
        String pairs = "w1,0,0,0;w2,1,0,0;w3,2,0,0;r4,1,2,1,0;r5,1,2,1,0;r0,5,3,1,0;r0,4,3,1,0;";
        due("6 ahead of 9", said(pairs, 0, 1, 2).bars(0), 6);
        // by RULES 0, 1 and 5, or by 2, 3 and 4: 35 and 28
        String threes = "w1,0,0,0;w2,1,0,0;w3,2,0,0;w4,3,0,0;r5,1,2,1,0;r6,5,3,1,0;r7,1,2,1,0;r8,7,3,1,0;r0,8,4,1,0;r0,6,4,1,0;";
        due("28 ahead of 35", said(threes, 0, 1, 2, 3).bars(0), 28);
    }

    private static void termsBarsRead() {
        edges.of(Edges.TERMS, "none. (0: it is READ.)");
        due("READ", chain(0, 1, 3, 5, 7).bars(0), 0);
        due("one WORD that is READ", said("w0,3,0,0;", 0).bars(0), 0);
        due("one WORD that is not", said("w1,3,0,0;r0,1,1,1,0;", 0).bars(0), -4);
        due("no agreement bars it", chain(1, 0).bars(0), -4);
    }

    private static void barsNone() {
        edges.of(15, "BARS. NONE");
        due("four agreements", chain(0, 2, 4, 6, 8).bars(0), -4);
        due("another order", chain(1, 0, 3, 5, 7).bars(0), -4);
        OneWordWrong x = chain(0, 1, 3, 5, 8);
        x.quote(0, 255);
        due("QUOTED or not", x.bars(0), 16);
        due("in a full SENTENCE", said("w1,0,0,0;w1,1,0,0;r0,1,1,1,0;r0,0,1,1,0;", 0, 0, 0, 0, 0, 0, 0, 1).bars(0), 2);
    }

    private static void barsBad() {
        edges.of(15, "BAD");
        OneWordWrong x = chain(0, 1, 3, 5, 8);
        Check.say(x, 7, 0, 2, 3, 5, 7);
        for (int s : NO_SENTENCES) {
            due("s " + s, x.bars(s), -1);
        }
        due("s 0", x.bars(0), 16);
        due("s 7", x.bars(7), 2);
    }

    private static void barsNo() {
        edges.of(15, "NO: it is empty.");
        OneWordWrong x = chain(0, 1, 3, 5, 8);
        due("empty", x.bars(1), -2);
        due("not empty", x.bars(0), 16);
        x.clear(0);
        due("cleared", x.bars(0), -2);
        due("at first", new OneWordWrong().bars(7), -2);
    }
}
