/** The boundary cases of what is said of TEXTS: Terms, and promises 1 to 6. */
public final class EdgesOfTextsTest {
    private static final String SMALL = "r0,1,2,1,0;w1,0,0,0;w1,1,0,1;w2,0,1,2;w2,1,1,3;w1,0,2,3;";
    private static final String WHOLE = "w1,2,13,14;";
    /** Pieces of the ITEM above, each cut off at another place. */
    private static final String[] CUT_OFF = {"w", "w1", "w1,", "w1,2", "w1,2,", "w1,2,1", "w1,2,13", "w1,2,13,", "w1,2,13,1", "w1,2,13,14"};
    private static Edges edges;

    public static void main(String[] args) {
        edges = new Edges("EdgesOfTextsTest", args);
        edges.run(
                EdgesOfTextsTest::termsCalls, EdgesOfTextsTest::termsBytes, EdgesOfTextsTest::termsNoBytes,
                EdgesOfTextsTest::termsLetters, EdgesOfTextsTest::termsFigures, EdgesOfTextsTest::termsParted,
                EdgesOfTextsTest::termsKind, EdgesOfTextsTest::termsMark, EdgesOfTextsTest::termsFamily,
                EdgesOfTextsTest::termsSound, EdgesOfTextsTest::termsSixteenWords, EdgesOfTextsTest::termsRuleKinds,
                EdgesOfTextsTest::termsRuleAgree, EdgesOfTextsTest::termsRuleMark, EdgesOfTextsTest::termsTwentyFourRules,
                EdgesOfTextsTest::termsPriceChange, EdgesOfTextsTest::termsPriceValue, EdgesOfTextsTest::termsPriceWithout,
                EdgesOfTextsTest::termsPriceLast, EdgesOfTextsTest::termsFirstByte, EdgesOfTextsTest::termsLaid,
                EdgesOfTextsTest::newObject, EdgesOfTextsTest::writeSizes, EdgesOfTextsTest::writeHighestFirst,
                EdgesOfTextsTest::writeBad, EdgesOfTextsTest::writeFull, EdgesOfTextsTest::wipe, EdgesOfTextsTest::faultOrNone,
                EdgesOfTextsTest::layWords, EdgesOfTextsTest::laySentences, EdgesOfTextsTest::layKeptAndErrors,
                EdgesOfTextsTest::layNo, EdgesOfTextsTest::priceAsTold, EdgesOfTextsTest::priceFitted,
                EdgesOfTextsTest::priceCut, EdgesOfTextsTest::priceBad);
        edges.end(0, 6);
    }

    private static void due(String call, long got, long want) {
        edges.due(call, got, want);
    }

    private static void dueFault(String text, int want) {
        OneWordWrong x = new OneWordWrong();
        Check.writeText(x, text);
        due("fault of " + text, x.fault(), want);
    }

    /** A text that is right, and one that is not by its only ITEM. */
    private static void dueRightAndWrong(String[] right, String[] wrong) {
        for (String text : right) {
            dueFault(text, -4);
        }
        for (String text : wrong) {
            dueFault(text, 0);
        }
    }

    private static void termsCalls() {
        edges.of(Edges.TERMS, "An object is used for at most 512 calls after it has been made");
        OneWordWrong x = new OneWordWrong();
        for (int call = 1; call <= 508; call += 2) {
            due("call " + call, x.write(8, call), 8);
            due("call " + (call + 1), x.wipe(), 8);
        }
        due("the 509th call", x.count(2), 0);
        due("the 510th", x.write(8, 0x77302c302c302c30L), 8);
        due("the 511th", x.write(1, 59), 9);
        due("the 512th", x.lay(), 1);
    }

    private static void termsBytes() {
        edges.of(Edges.TERMS, "A TEXT are bytes (400 at most)");
        OneWordWrong x = new OneWordWrong();
        due("80 ITEMS of five bytes", Check.writeText(x, "p0,1;".repeat(79) + "p0,9;"), 400);
        due("no FAULT in 400 bytes", x.fault(), -4);
        due("they can be LAID", x.lay(), 0);
        due("the last of them counts", x.price(0, false), 9);
        due("a 401st", x.write(1, 59), -3);
        due("it did not come", x.fault(), -4);
        OneWordWrong y = new OneWordWrong();
        due("399 bytes", Check.writeText(y, "p0,1;".repeat(79) + "p0,9"), 399);
        due("the last ITEM is not whole", y.fault(), 395);
        due("the 400th byte", y.write(1, 59), 400);
        due("now it is", y.fault(), -4);
        for (String cut : CUT_OFF) {
            OneWordWrong z = new OneWordWrong();
            int ahead = 400 - cut.length();
            due("400 bytes", Check.writeText(z, pricesOf(ahead) + cut), 400);
            due("the end of a full TEXT cuts " + cut, z.fault(), ahead);
            due("it can't be LAID", z.lay(), -2);
        }
    }

    /** ITEMS of just so many bytes (20 and more). */
    private static String pricesOf(int bytes) {
        int six = bytes % 5;
        return "p0,10;".repeat(six) + "p0,1;".repeat((bytes - 6 * six) / 5);
    }

    private static void termsNoBytes() {
        edges.of(Edges.TERMS, "ITEMS one behind the other");
        dueFault("", -4);
        dueFault("p0,1;p1,1;w0,0,0,0;r0,0,0,0,0;", -4);
        dueFault("p0,1; p1,1;", 5);
        dueFault("p0,1;;", 5);
        dueFault("p0,1;,p1,1;", 5);
        dueFault("p0,1;\n", 5);
        dueFault(" p0,1;", 0);
    }

    private static void termsLetters() {
        edges.of(Edges.TERMS, "each a letter, numbers (one or two figures) parted by , and ;");
        for (int letter = 0; letter < 256; letter++) {
            char c = (char) letter;
            dueFault(c + "0,0,0,0;", c == 'w' ? -4 : 0);
            dueFault(c + "0,0,0,0,0;", c == 'r' ? -4 : 0);
            dueFault(c + "0,0;", c == 'p' ? -4 : 0);
        }
        dueRightAndWrong(new String[] {}, new String[] {"w", "r", "p", "0,0;", ";", ",", "ww0,0,0,0;"});
    }

    private static void termsFigures() {
        edges.of(Edges.TERMS, "numbers (one or two figures)");
        dueRightAndWrong(new String[] {"p0,0;", "p0,9;", "p0,10;", "p0,09;", "p04,99;", "w9,3,15,15;", "w09,03,09,00;"},
                new String[] {"p0,;", "p,0;", "p,;", "p0,000;", "p0,009;", "p000,0;", "p0,123;", "p0,-1;", "p0,+1;", "p0,/;", "p0,:;",
                    "p0,a;", "p0,0x;", "p0,1a;", "p0, 1;", "p0,1 ;", "w0,0,0,015;", "w0,0,0,;", "w,0,0,0;", "r0,0,0,001,0;"});
        // what would be a figure with the top bit, or below it, is none
        dueFault("p0," + (char) ('0' + 128) + ";", 0);
        dueFault("p0,1" + (char) ('0' + 128) + ";", 0);
        dueFault("p0," + (char) ('0' - 32) + ";", 0);
    }

    private static void termsParted() {
        edges.of(Edges.TERMS, "parted by , and ;");
        dueRightAndWrong(new String[] {"p0,1;", "w0,0,0,0;", "r0,0,0,0,0;"},
                new String[] {"p01;", "p0;1;", "p0.1;", "p0,,1;", "p,0,1;", "p0,1,;", "p0,1", "p0,1,", "p0,1:", "p0,1.", "p0;", "p;",
                    "p0,1,2;", "w0,0,0;", "w0,0,0,0,0;", "w0,0,0,0", "w0;0;0;0;", "r0,0,0,0;", "r0,0,0,0,0,0;", "r0,0,0,0,0",
                    "w0,0,0,0,0,0,0,0,0,0,0,0;"});
    }

    private static void termsKind() {
        edges.of(Edges.TERMS, "KIND K (0 to 9)");
        dueRightAndWrong(new String[] {"w0,0,0,0;", "w9,0,0,0;"}, new String[] {"w10,0,0,0;", "w99,0,0,0;"});
        OneWordWrong x = Check.laid("w0,0,0,0;w9,0,0,0;");
        Check.say(x, 0, 0, 1);
        due("KIND 0", x.part(0, 0, 1, 0, 0), 1);
        due("KIND 9", x.part(0, 1, 1, 9, 0), 1);
    }

    private static void termsMark() {
        edges.of(Edges.TERMS, "MARK M (0 to 3)");
        dueRightAndWrong(new String[] {"w0,0,0,0;", "w0,3,0,0;"}, new String[] {"w0,4,0,0;", "w0,99,0,0;"});
        OneWordWrong x = Check.laid("w0,0,0,0;w0,3,0,0;");
        Check.say(x, 0, 0, 1);
        due("MARK 0", x.part(0, 0, 1, 0, 0), 1);
        due("MARK 3", x.part(0, 1, 1, 0, 3), 1);
    }

    private static void termsFamily() {
        edges.of(Edges.TERMS, "FAMILY F (0 to 15)");
        dueRightAndWrong(new String[] {"w0,0,0,0;", "w0,0,15,0;"}, new String[] {"w0,0,16,0;", "w0,0,99,0;"});
        OneWordWrong x = Check.laid("w0,0,15,0;w1,0,15,1;w1,0,0,2;p0,1;p3,50;p4,50;");
        Check.say(x, 0, 1);
        due("a FORM in FAMILY 15", x.least(0, false), 1);
        Check.say(x, 1, 2);
        due("none in FAMILY 0", x.least(1, false), -4);
    }

    private static void termsSound() {
        edges.of(Edges.TERMS, "SOUND S (0 to 15)");
        dueRightAndWrong(new String[] {"w0,0,0,0;", "w0,0,0,15;"}, new String[] {"w0,0,0,16;", "w0,0,0,99;"});
        OneWordWrong x = Check.laid("w0,0,0,15;w1,0,1,15;w1,0,2,0;p1,1;p3,50;p4,50;");
        Check.say(x, 0, 1);
        due("one of SOUND 15", x.least(0, false), 1);
        Check.say(x, 1, 2);
        due("none of SOUND 0", x.least(1, false), -4);
    }

    private static void termsSixteenWords() {
        edges.of(Edges.TERMS, "16 at most, 0, 1, .. as they come");
        StringBuilder text = new StringBuilder();
        for (int w = 0; w < 16; w++) {
            text.append("w" + w % 10 + "," + w / 4 + ",0,0;" + (w % 3 == 0 ? "p0,1;" : ""));
        }
        OneWordWrong x = new OneWordWrong();
        Check.writeText(x, text.toString());
        due("sixteen", x.lay(), 16);
        for (int w = 0; w < 16; w++) {
            due("WORD " + w, x.word(w / 8, w), w % 8 + 1);
            due("its KIND and MARK", x.part(w / 8, w % 8, 1, w % 10, w / 4), 1);
        }
        due("there is no seventeenth", x.word(2, 16), -1);
        dueFault("w0,0,0,0;".repeat(16), -4);
        dueFault("w0,0,0,0;".repeat(17), 144);
        dueFault("w0,0,0,0;".repeat(16) + "p0,1;w0,0,0,0;p9,9;", 149);
        dueFault("w0,0,0,0;".repeat(16) + "p0,1;r0,0,0,0,0;", -4);
    }

    private static void termsRuleKinds() {
        edges.of(Edges.TERMS, "a RULE: KIND X are a Y and a Z behind it");
        dueRightAndWrong(new String[] {"r0,0,0,0,0;", "r9,9,9,0,0;"},
                new String[] {"r10,0,0,0,0;", "r0,10,0,0,0;", "r0,0,10,0,0;", "r99,99,99,0,0;"});
        OneWordWrong x = Check.laid("w8,0,0,0;w9,0,0,0;r9,8,9,0,0;r0,9,8,0,0;");
        Check.say(x, 0, 0, 1);
        due("KIND 9 are an 8 and a 9 behind it", x.part(0, 0, 2, 9, 0), 1);
        due("they are no 0", x.trees(0, -1), 0);
        Check.say(x, 1, 1, 0);
        due("the other way round they are", x.trees(1, -1), 1);
        due("but no 9", x.part(1, 0, 2, 9, 0), 0);
    }

    private static void termsRuleAgree() {
        edges.of(Edges.TERMS, "a (0, 1): 1: their MARKS must agree (be alike)");
        dueRightAndWrong(new String[] {"r0,0,0,0,0;", "r0,0,0,1,0;"}, new String[] {"r0,0,0,2,0;", "r0,0,0,99,0;"});
        String words = "w1,0,0,0;w1,3,0,0;";
        for (int a = 0; a < 2; a++) {
            OneWordWrong x = Check.laid(words + "r0,1,1," + a + ",0;");
            Check.say(x, 0, 0, 1);
            due("MARKS 0 and 3, a " + a, x.trees(0, -1), 1 - a);
            Check.say(x, 1, 1, 0);
            due("MARKS 3 and 0, a " + a, x.trees(1, -1), 1 - a);
            Check.say(x, 2, 1, 1);
            due("MARKS 3 and 3, a " + a, x.trees(2, -1), 1);
        }
    }

    private static void termsRuleMark() {
        edges.of(Edges.TERMS, "the MARK of X is that of Y (h 0), of Z (h 1)");
        dueRightAndWrong(new String[] {"r0,0,0,0,0;", "r0,0,0,0,1;"}, new String[] {"r0,0,0,0,2;", "r0,0,0,0,99;"});
        String words = "w1,0,0,0;w1,3,0,0;";
        for (int h = 0; h < 2; h++) {
            OneWordWrong x = Check.laid(words + "r0,1,1,0," + h + ";");
            Check.say(x, 0, 0, 1);
            due("of MARKS 0 and 3 MARK 0, h " + h, x.trees(0, 0), 1 - h);
            due("of MARKS 0 and 3 MARK 3, h " + h, x.trees(0, 3), h);
        }
    }

    private static void termsTwentyFourRules() {
        edges.of(Edges.TERMS, "of Z (h 1); 24 at most");
        dueFault("r0,0,0,0,0;".repeat(24), -4);
        dueFault("r0,0,0,0,0;".repeat(25), 264);
        dueFault("r0,0,0,0,0;".repeat(24) + "w0,0,0,0;p0,1;", -4);
        dueFault("r0,0,0,0,0;".repeat(24) + "w0,0,0,0;r0,0,0,0,0;", 273);
        OneWordWrong x = Check.laid("r0,0,0,0,0;".repeat(23) + "w0,0,0,0;w1,0,0,0;r0,1,1,0,0;");
        Check.say(x, 0, 0, 0);
        due("23 of them", x.trees(0, -1), 23);
        Check.say(x, 1, 1, 1);
        due("the 24th", x.trees(1, -1), 1);
        due("all", x.count(1), 24);
        due("there is no 25th", x.byRule(24), -1);
    }

    private static void termsPriceChange() {
        edges.of(Edges.TERMS, "the PRICE of a change C: 0 FORM, 1 SOUND, 2 OTHER, 3 OUT, 4 IN");
        dueRightAndWrong(new String[] {"p0,0;", "p4,0;"}, new String[] {"p5,0;", "p9,0;", "p99,0;"});
        // the row of WORD 1 alone becomes READ by the change that is cheapest, the others cost 60
        String[] words = {"w0,0,1,0;w1,0,1,1;", "w0,0,0,1;w1,0,1,1;"};
        for (int change = 0; change < 2; change++) {
            OneWordWrong x = Check.laid(words[change] + "p0,60;p1,60;p2,60;p3,60;p4,60;p" + change + ",7;");
            Check.say(x, 0, 1);
            due("by change " + change, x.least(0, false), 7);
            due("the MEND too", x.mend(0, 0, 0), 7);
        }
        OneWordWrong other = Check.laid("w1,0,0,0;w1,1,1,1;w2,1,2,2;r0,1,2,1,0;p0,60;p1,60;p2,7;p3,60;p4,60;");
        Check.say(other, 0, 0, 2);
        due("by change 2", other.mend(0, 0, 0), 7);
        OneWordWrong out = Check.laid("w0,0,0,0;w1,0,1,1;p0,60;p1,60;p2,60;p3,7;p4,60;");
        Check.say(out, 0, 0, 1);
        due("by change 3", out.mend(0, 0, 0), 7);
        OneWordWrong in = Check.laid("w1,0,0,0;w2,0,1,1;r0,1,2,0,0;p0,60;p1,60;p2,60;p3,60;p4,7;");
        Check.say(in, 0, 0);
        due("by change 4", in.mend(0, 0, 0), 7);
    }

    private static void termsPriceValue() {
        edges.of(Edges.TERMS, "is v (0 to 99");
        dueRightAndWrong(new String[] {"p0,0;", "p0,99;"}, new String[] {"p0,100;", "p0,-1;"});
        OneWordWrong x = Check.laid("p0,0;p1,99;p2,00;p3,01;p4,98;");
        int[] told = {0, 99, 0, 1, 98};
        for (int c = 0; c < 5; c++) {
            due("change " + c, x.price(c, false), told[c]);
        }
    }

    private static void termsPriceWithout() {
        edges.of(Edges.TERMS, "3, 4, 6, 5, 5 without");
        int[] without = {3, 4, 6, 5, 5};
        for (int told = 0; told < 5; told++) {
            OneWordWrong x = Check.laid("p" + told + ",77;");
            for (int c = 0; c < 5; c++) {
                due("change " + c + " where " + told + " is told", x.price(c, false), c == told ? 77 : without[c]);
            }
        }
        OneWordWrong y = Check.laid("p0,0;p1,0;p2,0;p3,0;p4,0;");
        y.wipe();
        for (int times = 1; times <= 3; times++) {
            y.lay();
            for (int c = 0; c < 5; c++) {
                due("change " + c + ", told no more, LAID " + times + " times", y.price(c, false), without[c]);
            }
        }
        Check.writeText(y, "p0,50;p3,50;x");
        due("a FAULT", y.lay(), -2);
        y.wipe();
        y.lay();
        due("told in a TEXT with a FAULT alone", y.price(0, false) + y.price(3, false), 8);
    }

    private static void termsPriceLast() {
        edges.of(Edges.TERMS, "of several the last");
        due("two", Check.laid("p0,9;p0,1;").price(0, false), 1);
        due("the last is the greater", Check.laid("p0,1;p0,9;").price(0, false), 9);
        due("the first again", Check.laid("p0,1;p0,9;p1,5;p0,1;").price(0, false), 1);
        due("eighty", Check.laid("p4,9;".repeat(79) + "p4,0;").price(4, false), 0);
    }

    private static void termsFirstByte() {
        edges.of(Edges.TERMS, "FAULT: the place of the first byte of the first ITEM that is not so");
        dueFault("x", 0);
        dueFault("w0,0,0,16;", 0);
        dueFault("p0,1;w0,0,0,16;", 5);
        dueFault("p0,1;w0,0,0,16;w0,0,0,16;", 5);
        dueFault("p0,1;w0,0,0,15;r0,0,0,0,2;x", 15);
        dueFault("p0,1;".repeat(79) + "p0,1x", 395);
        dueFault("w0,0,0,00;" + "p0,1;".repeat(77) + "p0,9x", 395);
        dueFault("p0,01;p0,01;p0,01;p0,01;" + "p0,1;".repeat(75) + "x", 399);
    }

    private static void termsLaid() {
        edges.of(Edges.TERMS, "LAID is a TEXT without FAULT (empty at first)");
        OneWordWrong x = new OneWordWrong();
        due("no WORDS at first", x.count(0), 0);
        due("no RULES at first", x.count(1), 0);
        due("THE TEXT is empty at first", x.count(2), 0);
        Check.writeText(x, SMALL + "x");
        due("a FAULT", x.lay(), -2);
        due("the empty one is LAID still", x.count(0), 0);
        due("it has no WORD 0", x.word(0, 0), -1);
        x.wipe();
        Check.writeText(x, SMALL);
        due("written, not LAID", x.count(0), 0);
        due("without FAULT", x.lay(), 5);
    }

    private static void newObject() {
        edges.of(1, "An empty TEXT is LAID.");
        OneWordWrong x = new OneWordWrong();
        for (int what = 0; what < 6; what++) {
            due("count(" + what + ")", x.count(what), 0);
        }
        due("no WORD", x.word(0, 0), -1);
        due("no RULE", x.byRule(0), -1);
        due("no KEPT one", x.theirs(0), -1);
        due("no FAULT", x.fault(), -4);
        for (int s = 0; s < 8; s++) {
            due("SENTENCE " + s + " is empty", x.trees(s, -1), -2);
            due("nothing is QUOTED in " + s, x.quote(s, 0), 0);
        }
        for (int c = 0; c < 5; c++) {
            due("the PRICE of " + c, x.price(c, true), new int[] {3, 4, 6, 5, 5}[c]);
        }
        due("it can be LAID again", x.lay(), 0);
    }

    private static void writeSizes() {
        edges.of(2, "n bytes (1 to 8) of v");
        OneWordWrong x = new OneWordWrong();
        due("one", x.write(1, 'p'), 1);
        due("none", x.write(0, 'p'), -1);
        due("eight", x.write(8, 0x302c313b70312c32L), 9);
        due("nine", x.write(9, 59), -1);
        due("one more", x.write(1, ';'), 10);
        due("p0,1;p1,2; has no FAULT", x.fault(), -4);
        x.lay();
        due("the first", x.price(0, false), 1);
        due("the second", x.price(1, false), 2);
        for (int n = 1; n <= 8; n++) {
            OneWordWrong y = new OneWordWrong();
            due(n + " bytes", y.write(n, 0), n);
            due(n + " bytes, counted", y.count(2), n);
        }
    }

    private static void writeHighestFirst() {
        edges.of(2, "the highest first, come behind THE TEXT: how long it is.");
        OneWordWrong x = new OneWordWrong();
        due("p0, with other bytes above", x.write(3, 0x1122334470302cL), 3);
        due("7; with -1 above", x.write(2, 0xffffffffffff373bL), 5);
        due("it is p0,7;", x.fault(), -4);
        x.lay();
        due("so it is 7", x.price(0, false), 7);
        due("bytes of 255", x.write(8, -1L), 13);
        due("they are no ITEM", x.fault(), 5);
        due("the least v", x.write(8, Long.MIN_VALUE), 21);
        due("the greatest v", x.write(1, Long.MAX_VALUE), 22);
    }

    private static void writeBad() {
        edges.of(2, "BAD");
        OneWordWrong x = new OneWordWrong();
        for (int n : new int[] {0, -1, 9, 10, 257, 264, Integer.MIN_VALUE, Integer.MAX_VALUE}) {
            due("n " + n, x.write(n, 59), -1);
        }
        due("nothing came", x.count(2), 0);
    }

    private static void writeFull() {
        edges.of(2, "FULL");
        for (int n = 1; n <= 8; n++) {
            OneWordWrong x = new OneWordWrong();
            Check.writeText(x, ";".repeat(401 - n));
            due(n + " bytes behind " + (401 - n), x.write(n, 0), -3);
            due("none of them came", x.count(2), 401 - n);
            due("one less fits", n == 1 ? 400 : x.write(n - 1, 0), 400);
            OneWordWrong y = new OneWordWrong();
            Check.writeText(y, ";".repeat(400 - n));
            due(n + " bytes behind " + (400 - n), y.write(n, 0), 400);
            due("no more", y.write(1, 0), -3);
            due("BAD ahead of FULL", y.write(9, 0), -1);
        }
    }

    private static void wipe() {
        edges.of(3, "THE TEXT is empty: how long it was.");
        OneWordWrong x = new OneWordWrong();
        due("an empty one", x.wipe(), 0);
        x.write(1, 59);
        due("one byte", x.wipe(), 1);
        due("it is empty", x.count(2), 0);
        due("again", x.wipe(), 0);
        Check.writeText(x, ";".repeat(400));
        due("a full one", x.wipe(), 400);
        due("nothing of it is left", x.fault(), -4);
        due("there is room", x.write(8, 0x70302c313b70312cL), 8);
        due("from the start on", x.fault(), 5);
        for (String cut : CUT_OFF) {
            OneWordWrong z = new OneWordWrong();
            Check.writeText(z, WHOLE);
            z.wipe();
            due("a piece as long", Check.writeText(z, cut), cut.length());
            due("what stood behind " + cut + " does not count", z.fault(), 0);
            due("it can't be LAID", z.lay(), -2);
        }
        OneWordWrong y = Check.laid(SMALL);
        Check.say(y, 0, 0, 2);
        y.wipe();
        due("LAID stays", y.count(0), 5);
        due("SENTENCES stay", y.trees(0, -1), 1);
    }

    private static void faultOrNone() {
        edges.of(4, "FAULT. NONE.");
        OneWordWrong x = new OneWordWrong();
        due("an empty TEXT", x.fault(), -4);
        Check.writeText(x, SMALL);
        due("a right one", x.fault(), -4);
        x.write(1, 'w');
        due("a piece more", x.fault(), SMALL.length());
        due("asked again", x.fault(), SMALL.length());
        x.wipe();
        due("wiped", x.fault(), -4);
        x.write(1, ';');
        due("at the first byte", x.fault(), 0);
    }

    private static void layWords() {
        edges.of(5, "LAID: how many WORDS");
        OneWordWrong x = new OneWordWrong();
        due("an empty TEXT", x.lay(), 0);
        Check.writeText(x, "r0,0,0,0,0;p0,1;");
        due("no WORDS", x.lay(), 0);
        due("one RULE", x.count(1), 1);
        Check.writeText(x, "w0,0,0,0;");
        due("one WORD", x.lay(), 1);
        Check.writeText(x, "w0,0,0,0;".repeat(15));
        due("sixteen", x.lay(), 16);
        due("the last of them", x.word(0, 15), 1);
        x.wipe();
        due("none any more", x.lay(), 0);
        due("the first is none", x.word(0, 0), -1);
        due("no RULE any more", x.byRule(0), -1);
    }

    private static void laySentences() {
        edges.of(5, "all SENTENCES are empty");
        OneWordWrong x = Check.laid(SMALL);
        for (int s = 0; s < 8; s++) {
            Check.say(x, s, 0, 3, 0, 3, 0, 3, 0, 3);
        }
        due("all are full", x.count(5), 64);
        due("lay", x.lay(), 5);
        due("none has WORDS", x.count(5), 0);
        for (int s = 0; s < 8; s++) {
            due("SENTENCE " + s + " is empty", x.trees(s, -1), -2);
            due("it had no WORDS", x.clear(s), 0);
            due("its first WORD", x.word(s, 4), 1);
        }
    }

    private static void layKeptAndErrors() {
        edges.of(5, "KEPT ones and errors none");
        OneWordWrong x = Check.laid(SMALL);
        Check.say(x, 0, 0, 3);
        Check.say(x, 1, 0, 2);
        for (int k = 0; k < 12; k++) {
            x.keep(0, k % 2);
        }
        for (int k = 0; k < 60; k++) {
            x.err(k % 2);
        }
        due("lay", x.lay(), 5);
        due("none KEPT", x.count(3), 0);
        for (int what = 0; what < 3; what++) {
            due("kept(" + what + ")", x.kept(what), 0);
        }
        due("by no RULE", x.byRule(0), 0);
        due("there is no first one", x.theirs(0), -1);
        due("no errors", x.count(4), 0);
        due("PRICES as told", x.price(0, true), 3);
        due("what never came is not GONE", x.gone(0, 1), 0);
        Check.say(x, 0, 0, 3);
        due("the first one again", x.keep(0, 0), 0);
        due("the first error again", x.err(4), 1);
        due("fitted to it alone", x.price(4, true), 1);
    }

    private static void layNo() {
        edges.of(5, "NO: a FAULT.");
        OneWordWrong x = Check.laid(SMALL + "p3,8;");
        Check.say(x, 0, 0, 3);
        Check.say(x, 1, 0, 2);
        x.quote(0, 2);
        x.keep(0, 1);
        x.err(3);
        Check.writeText(x, "p0,9;w0,0,0,0;r0,1,1,0,0;p3,1;x");
        due("lay", x.lay(), -2);
        due("WORDS", x.count(0), 5);
        due("RULES", x.count(1), 1);
        due("WORDS of SENTENCES", x.count(5), 4);
        due("KEPT", x.count(3), 1);
        due("errors", x.count(4), 1);
        due("a PRICE that the new TEXT tells", x.price(0, false), 3);
        due("a PRICE that both tell", x.price(3, false), 8);
        due("TREES", x.trees(1, -1), 1);
        due("MENDS", x.mend(0, -1, 0), 1);
        due("QUOTED", x.quote(0, 0), 2);
        due("THE TEXT", x.count(2), SMALL.length() + 36);
        due("again", x.lay(), -2);
        due("the new WORD is none", x.word(2, 5), -1);
    }

    private static void priceAsTold() {
        edges.of(6, "PRICE of a change: as told (fitted = false)");
        OneWordWrong x = Check.laid("p0,0;p4,99;");
        due("the least", x.price(0, false), 0);
        due("the greatest", x.price(4, false), 99);
        due("not told", x.price(2, false), 6);
        x.err(0);
        due("with an error, as told", x.price(0, false), 0);
        due("with an error, the greatest", x.price(4, false), 99);
    }

    private static void priceFitted() {
        edges.of(Edges.TERMS, "without errors as told");
        OneWordWrong x = Check.laid("p0,0;p4,99;");
        int[] told = {0, 4, 6, 5, 99};
        for (int c = 0; c < 5; c++) {
            due("change " + c, x.price(c, true), told[c]);
        }
        x.err(2);
        for (int c = 0; c < 5; c++) {
            due("change " + c + " with one error", x.price(c, true), c == 2 ? 1 : 10);
        }
    }

    private static void priceCut() {
        edges.of(Edges.TERMS, "10 less (9 times how often C came by all, cut)");
        OneWordWrong x = new OneWordWrong();
        for (int k = 1; k <= 60; k++) {
            x.err(k == 1 ? 3 : 1);
            due("3 came once of " + k, x.price(3, true), 10 - 9 / k);
            due("1 came " + (k - 1) + " of " + k, x.price(1, true), 10 - 9 * (k - 1) / k);
        }
        due("once of sixty", x.price(3, true), 10);
        due("59 of sixty: 8.85, cut", x.price(1, true), 2);
        due("never", x.price(0, true), 10);
        OneWordWrong all = new OneWordWrong();
        for (int k = 1; k <= 60; k++) {
            all.err(4);
        }
        due("sixty of sixty", all.price(4, true), 1);
    }

    private static void priceBad() {
        edges.of(6, "BAD.");
        OneWordWrong x = new OneWordWrong();
        for (int errors = 0; errors < 2; errors++) {
            for (int change : new int[] {-1, 5, 6, 256, Integer.MIN_VALUE, Integer.MAX_VALUE}) {
                due("price(" + change + ", false)", x.price(change, false), -1);
                due("price(" + change + ", true)", x.price(change, true), -1);
            }
            due("change 0 is told", x.price(0, true), errors == 0 ? 3 : 1);
            due("change 4 is told", x.price(4, true), errors == 0 ? 5 : 10);
            x.err(0);
        }
    }
}
