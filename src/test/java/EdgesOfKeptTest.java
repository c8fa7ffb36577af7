/** The boundary cases of what is said of KEPT SENTENCES and of THE HAND: Terms, and promises 16 to 22. */
public final class EdgesOfKeptTest {
    /** WORDS 0 3 are not READ, and have the MENDS 0 2 and 1 3; 4 3 has 4 2 and 1 3; 0 2 is READ. */
    private static final String SMALL = "r0,1,2,1,0;w1,0,0,0;w1,1,0,1;w2,0,1,2;w2,1,1,3;w1,0,2,3;";
    private static final int[] NO_SENTENCES = {-1, 8, 9, 255, 256, Integer.MIN_VALUE, Integer.MAX_VALUE};
    private static Edges edges;

    public static void main(String[] args) {
        edges = new Edges("EdgesOfKeptTest", args);
        edges.run(
                EdgesOfKeptTest::termsTwelve, EdgesOfKeptTest::termsAlike, EdgesOfKeptTest::termsFound,
                EdgesOfKeptTest::termsByHowMany, EdgesOfKeptTest::termsWronged, EdgesOfKeptTest::termsByRule,
                EdgesOfKeptTest::termsTheirs, EdgesOfKeptTest::termsNothingQuoted, EdgesOfKeptTest::keepNumber,
                EdgesOfKeptTest::keepAsTheyWere, EdgesOfKeptTest::keepBad, EdgesOfKeptTest::keepNo, EdgesOfKeptTest::keepFull,
                EdgesOfKeptTest::keptWhat, EdgesOfKeptTest::keptBad, EdgesOfKeptTest::byRuleOfAll, EdgesOfKeptTest::byRuleBad,
                EdgesOfKeptTest::theirsPlace, EdgesOfKeptTest::theirsNone, EdgesOfKeptTest::theirsBad, EdgesOfKeptTest::theirsNo,
                EdgesOfKeptTest::termsSixty, EdgesOfKeptTest::errHowMany, EdgesOfKeptTest::errBad, EdgesOfKeptTest::errFull,
                EdgesOfKeptTest::termsGone, EdgesOfKeptTest::goneOneOrNone, EdgesOfKeptTest::goneBad, EdgesOfKeptTest::countWhat,
                EdgesOfKeptTest::countSentences, EdgesOfKeptTest::countBad);
        edges.end(16, 22);
    }

    private static void due(String call, long got, long want) {
        edges.due(call, got, want);
    }

    /** SENTENCES 0: 0 3 (not READ), 1: 0 2 and 2: 1 3 (its MENDS, READ), 3: 3 0 (not READ, no MENDS). */
    private static OneWordWrong said() {
        OneWordWrong x = Check.laid(SMALL);
        Check.say(x, 0, 0, 3);
        Check.say(x, 1, 0, 2);
        Check.say(x, 2, 1, 3);
        Check.say(x, 3, 3, 0);
        return x;
    }

    // ---- KEPT SENTENCES

    private static void termsTwelve() {
        edges.of(Edges.TERMS, "KEPT SENTENCES, 12 at most: a row of WORDS and what people made of it");
        OneWordWrong x = said();
        for (int k = 0; k < 12; k++) {
            due("number " + k, x.keep(0, 1), k);
        }
        due("a thirteenth", x.keep(0, 1), -3);
        due("twelve", x.count(3), 12);
        due("all twelve FOUND", x.kept(0), 12);
        due("the twelfth", x.theirs(11), 0);
        due("there is no thirteenth", x.theirs(12), -1);
        // rows of one and of eight WORDS
        OneWordWrong y = Check.laid("w1,0,0,0;w0,0,0,1;r0,1,0,0,0;r0,0,1,0,0;");
        Check.say(y, 0, 0);
        Check.say(y, 1, 1);
        Check.say(y, 2, 0, 0, 0, 0, 0, 0, 0, 0);
        Check.say(y, 3, 0, 0, 0, 0, 0, 0, 0, 1);
        y.keep(0, 1);
        y.keep(2, 3);
        due("one WORD", y.theirs(0), 0);
        due("eight WORDS", y.theirs(1), 0);
    }

    private static void termsAlike() {
        edges.of(Edges.TERMS, "(a row; alike, if it is right)");
        OneWordWrong x = said();
        Check.say(x, 4, 0, 3);
        Check.say(x, 5, 0, 3, 3);
        Check.say(x, 6, 0);
        Check.say(x, 7, 3, 3);
        x.keep(0, 0);
        due("the same SENTENCE is alike", x.kept(2), 1);
        x.keep(0, 4);
        due("another one of the same row too", x.kept(2), 2);
        x.keep(0, 5);
        due("a WORD more is not", x.kept(2), 2);
        x.keep(0, 6);
        due("a WORD less is not", x.kept(2), 2);
        x.keep(0, 7);
        due("another first WORD is not", x.kept(2), 2);
        x.keep(0, 1);
        due("another last WORD is not", x.kept(2), 2);
        due("changed ones", x.kept(1), 4);
        // WORDS that are told alike are not the same
        OneWordWrong twins = Check.laid("w1,0,0,0;w1,0,0,0;");
        Check.say(twins, 0, 0);
        Check.say(twins, 1, 1);
        twins.keep(0, 1);
        due("told alike, but another WORD", twins.kept(1), 1);
    }

    private static void termsFound() {
        edges.of(Edges.TERMS, "FOUND: of those that are not READ as they are, and that people changed: how many whose first MEND is theirs");
        OneWordWrong x = said();
        due("none KEPT", x.kept(0), 0);
        x.keep(0, 2);
        due("the second MEND is theirs", x.kept(0), 0);
        x.keep(0, 1);
        due("the first is", x.kept(0), 1);
        x.keep(3, 1);
        due("there are no MENDS", x.kept(0), 1);
        x.keep(0, 3);
        due("theirs is no MEND", x.kept(0), 1);
        x.keep(1, 2);
        due("it is READ", x.kept(0), 1);
        x.keep(0, 0);
        due("it is right", x.kept(0), 1);
        x.keep(0, 1);
        due("the same once more", x.kept(0), 2);
    }

    private static void termsByHowMany() {
        edges.of(Edges.TERMS, "how many whose first MEND is theirs; by how many");
        OneWordWrong x = said();
        due("none KEPT", x.kept(1), 0);
        x.keep(0, 2);
        due("not READ, changed", x.kept(1), 1);
        x.keep(3, 1);
        due("without MENDS", x.kept(1), 2);
        x.keep(1, 2);
        due("READ, changed", x.kept(1), 2);
        x.keep(1, 1);
        due("READ, right", x.kept(1), 2);
        x.keep(0, 0);
        due("not READ, right", x.kept(1), 2);
        x.keep(1, 0);
        due("READ, changed to what is not READ", x.kept(1), 2);
        x.keep(0, 3);
        due("not READ, changed to what is not READ", x.kept(1), 3);
    }

    private static void termsWronged() {
        edges.of(Edges.TERMS, "WRONGED: right ones that are not READ");
        OneWordWrong x = said();
        due("none KEPT", x.kept(2), 0);
        x.keep(1, 1);
        due("right and READ", x.kept(2), 0);
        x.keep(0, 1);
        due("changed, not READ", x.kept(2), 0);
        x.keep(1, 2);
        due("changed and READ", x.kept(2), 0);
        x.keep(0, 0);
        due("right, not READ", x.kept(2), 1);
        x.keep(3, 3);
        due("right, not READ, no MENDS", x.kept(2), 2);
        x.keep(0, 0);
        due("the same once more", x.kept(2), 3);
    }

    private static void termsByRule() {
        edges.of(Edges.TERMS, "BY RULE: WRONGED ones that are READ, if that RULE alone need not agree");
        OneWordWrong x = Check.laid("w1,0,0,0;w2,1,0,0;w3,1,0,0;w3,0,0,0;r4,1,2,1,0;r0,4,3,1,0;r0,1,2,1,0;r0,1,3,0,0;r0,1,2,1,1;");
        Check.say(x, 0, 0, 1);
        Check.say(x, 1, 0, 1, 3);
        Check.say(x, 2, 0, 1, 2);
        Check.say(x, 3, 0, 2);
        Check.say(x, 4, 1, 0);
        for (int r = 0; r < 5; r++) {
            due("none KEPT, RULE " + r, x.byRule(r), 0);
        }
        x.keep(2, 2);
        due("RULES 0 and 1 bar it, not 0 alone", x.byRule(0), 0);
        due("nor 1 alone", x.byRule(1), 0);
        x.keep(1, 1);
        due("RULE 0 alone", x.byRule(0), 1);
        x.keep(0, 0);
        due("RULE 2 or RULE 4: the one", x.byRule(2), 1);
        due("and the other", x.byRule(4), 1);
        x.keep(0, 3);
        due("people changed it", x.byRule(2), 1);
        x.keep(3, 3);
        due("READ", x.byRule(3), 0);
        x.keep(4, 4);
        due("no RULE bars it", x.byRule(2), 1);
        x.keep(0, 0);
        due("the same once more", x.byRule(2), 2);
        due("a RULE with a 0 bars nothing", x.byRule(3), 0);
        due("RULE 1", x.byRule(1), 0);
        // 1 is 1 1 twice over, so that its RULE is used at two places
        OneWordWrong twice = Check.laid("w1,0,0,0;w1,1,0,0;w2,0,0,0;r1,1,1,1,0;r0,1,2,1,0;");
        Check.say(twice, 0, 0, 1, 1, 2);
        twice.keep(0, 0);
        due("a RULE that is used twice is one", twice.byRule(0), 1);
    }

    private static void termsTheirs() {
        edges.of(Edges.TERMS, "THEIRS: of changed ones the place at which people's row is among MENDS; none");
        OneWordWrong x = said();
        x.keep(0, 1);
        due("the first place is 0", x.theirs(0), 0);
        x.keep(0, 2);
        due("the second", x.theirs(1), 1);
        x.keep(0, 3);
        due("not among them", x.theirs(2), -4);
        x.keep(3, 1);
        due("there are none", x.theirs(3), -4);
        StringBuilder words = new StringBuilder();
        for (int w = 0; w < 11; w++) {
            words.append("w1,0," + w + "," + w + ";");
        }
        // 41 rows are READ, the 41st is no MEND
        OneWordWrong y = Check.laid(words + "r2,1,1,0,0;r0,2,2,0,0;");
        Check.say(y, 0, 0, 1, 2);
        Check.say(y, 1, 9, 0, 1, 2);
        Check.say(y, 2, 10, 0, 1, 2);
        y.keep(0, 1);
        y.keep(0, 2);
        due("the fortieth", y.theirs(0), 39);
        due("a 41st is none", y.theirs(1), -4);
    }

    private static void termsNothingQuoted() {
        edges.of(Edges.TERMS, "(Nothing is QUOTED in KEPT ones.)");
        OneWordWrong x = said();
        x.quote(0, 255);
        x.quote(1, 255);
        due("its own MENDS", x.mend(0, -1, 0), 0);
        due("keep", x.keep(0, 1), 0);
        due("FOUND all the same", x.kept(0), 1);
        due("THEIRS all the same", x.theirs(0), 0);
        due("its own MENDS are as before", x.mend(0, -1, 0), 0);
        due("QUOTED as before", x.quote(0, 1), 255);
        due("keep with one", x.keep(0, 2), 1);
        due("the place among all MENDS", x.theirs(1), 1);
        due("its own MENDS, with one", x.mend(0, -1, 0), 1);
        x.keep(0, 0);
        due("WRONGED", x.kept(2), 1);
        due("by RULE", x.byRule(0), 1);
    }

    private static void keepNumber() {
        edges.of(16, "KEPT: SENTENCE s and what people made of it, SENTENCE t: its number.");
        OneWordWrong x = said();
        due("the first", x.keep(0, 1), 0);
        due("the second", x.keep(0, 0), 1);
        due("the same once more", x.keep(0, 1), 2);
        Check.say(x, 7, 0, 3);
        due("of the last SENTENCE", x.keep(7, 7), 3);
        due("s is theirs, t is what was made of it", x.kept(0), 2);
        due("the other way round", x.keep(1, 0), 4);
        due("that one is READ", x.theirs(4), -2);
    }

    private static void keepAsTheyWere() {
        edges.of(16, "KEPT: SENTENCE s and what people made of it, SENTENCE t");
        OneWordWrong x = said();
        x.keep(0, 1);
        x.keep(0, 0);
        x.word(0, 3);
        x.clear(1);
        due("they are KEPT as they were: FOUND", x.kept(0), 1);
        due("WRONGED", x.kept(2), 1);
        due("by RULE", x.byRule(0), 1);
        due("THEIRS", x.theirs(0), 0);
        due("SENTENCES are left alone", x.count(5), 3 + 0 + 2 + 2);
        x.err(2);
        due("FITTED PRICES do not count", x.theirs(0), 0);
    }

    private static void keepBad() {
        edges.of(16, "BAD");
        OneWordWrong x = said();
        for (int s : NO_SENTENCES) {
            due("s " + s, x.keep(s, 0), -1);
            due("t " + s, x.keep(0, s), -1);
            due("both " + s, x.keep(s, s), -1);
            due("t " + s + " where s is empty", x.keep(7, s), -1);
        }
        due("none is KEPT", x.count(3), 0);
    }

    private static void keepNo() {
        edges.of(16, "NO: one is empty");
        OneWordWrong x = said();
        due("s is empty", x.keep(7, 0), -2);
        due("t is empty", x.keep(0, 7), -2);
        due("both are", x.keep(7, 7), -2);
        due("both are, two of them", x.keep(6, 7), -2);
        due("none is KEPT", x.count(3), 0);
        x.clear(0);
        due("cleared", x.keep(0, 1), -2);
        x.word(0, 0);
        due("one WORD is enough", x.keep(0, 1), 0);
    }

    private static void keepFull() {
        edges.of(16, "FULL: 12.");
        OneWordWrong x = said();
        for (int k = 0; k < 11; k++) {
            x.keep(0, 1);
        }
        due("the twelfth", x.keep(0, 2), 11);
        due("a thirteenth", x.keep(0, 1), -3);
        due("another", x.keep(1, 1), -3);
        due("NO ahead of FULL", x.keep(0, 7), -2);
        due("BAD ahead of FULL", x.keep(0, 8), -1);
        due("twelve", x.count(3), 12);
        due("FOUND", x.kept(0), 11);
        due("the twelfth is as it was", x.theirs(11), 1);
        due("lay", x.lay(), 5);
        x.word(0, 0);
        due("there is room again", x.keep(0, 0), 0);
    }

    private static void keptWhat() {
        edges.of(17, "Of KEPT ones: 0 FOUND, 1 by how many, 2 WRONGED.");
        OneWordWrong x = said();
        for (int what = 0; what < 3; what++) {
            due("none KEPT, " + what, x.kept(what), 0);
        }
        x.keep(0, 1);
        x.keep(0, 2);
        x.keep(3, 2);
        x.keep(0, 0);
        x.keep(3, 3);
        due("FOUND", x.kept(0), 1);
        due("by how many", x.kept(1), 3);
        due("WRONGED", x.kept(2), 2);
        OneWordWrong all = said();
        for (int k = 0; k < 12; k++) {
            all.keep(0, 0);
        }
        due("no one changed any", all.kept(1), 0);
        due("all are WRONGED", all.kept(2), 12);
        due("all by RULE 0", all.byRule(0), 12);
    }

    private static void keptBad() {
        edges.of(17, "BAD.");
        OneWordWrong x = said();
        x.keep(0, 1);
        for (int what : new int[] {-1, 3, 4, Integer.MIN_VALUE, Integer.MAX_VALUE}) {
            due("what " + what, x.kept(what), -1);
        }
    }

    private static void byRuleOfAll() {
        edges.of(18, "BY RULE.");
        OneWordWrong x = Check.laid("w1,0,0,0;w1,1,0,0;" + "r9,9,9,1,0;".repeat(23) + "r0,1,1,1,0;");
        Check.say(x, 0, 0, 1);
        due("none KEPT", x.byRule(23), 0);
        x.keep(0, 0);
        for (int r = 0; r < 23; r++) {
            due("RULE " + r, x.byRule(r), 0);
        }
        due("RULE 23", x.byRule(23), 1);
        OneWordWrong first = Check.laid("w1,0,0,0;w1,1,0,0;r0,1,1,1,0;" + "r9,9,9,1,0;".repeat(23));
        Check.say(first, 0, 0, 1);
        first.keep(0, 0);
        due("RULE 0 of 24", first.byRule(0), 1);
        due("RULE 23 of 24", first.byRule(23), 0);
    }

    private static void byRuleBad() {
        edges.of(18, "BAD: no such RULE.");
        OneWordWrong none = new OneWordWrong();
        due("no RULES", none.byRule(0), -1);
        OneWordWrong x = said();
        x.keep(0, 0);
        for (int rule : new int[] {-1, 1, 23, 24, 31, 32, 33, Integer.MIN_VALUE, Integer.MAX_VALUE}) {
            due("rule " + rule, x.byRule(rule), -1);
        }
        due("RULE 0", x.byRule(0), 1);
        Check.writeText(x, "r9,9,9,0,0;");
        due("written, not LAID", x.byRule(1), -1);
        x.lay();
        due("LAID", x.byRule(1), 0);
    }

    private static void theirsPlace() {
        edges.of(19, "THEIRS of a KEPT one.");
        OneWordWrong x = said();
        for (int k = 0; k < 12; k++) {
            x.keep(0, 1 + k % 2);
        }
        for (int k = 0; k < 12; k++) {
            due("of " + k, x.theirs(k), k % 2);
        }
    }

    private static void theirsNone() {
        edges.of(19, "NONE");
        OneWordWrong x = said();
        Check.say(x, 4, 4, 2);
        Check.say(x, 5, 0);
        Check.say(x, 6, 0, 2, 2);
        x.keep(0, 4);
        due("READ, but two changes away", x.theirs(0), -4);
        x.keep(0, 5);
        due("the first WORD of a MEND", x.theirs(1), -4);
        x.keep(0, 6);
        due("a MEND and a WORD more", x.theirs(2), -4);
        x.keep(3, 0);
        due("without MENDS", x.theirs(3), -4);
    }

    private static void theirsBad() {
        edges.of(19, "BAD");
        OneWordWrong x = said();
        due("none KEPT", x.theirs(0), -1);
        x.keep(0, 1);
        for (int k : new int[] {-1, 1, 11, 12, Integer.MIN_VALUE, Integer.MAX_VALUE}) {
            due("k " + k, x.theirs(k), -1);
        }
        due("k 0", x.theirs(0), 0);
        x.lay();
        due("none KEPT any more", x.theirs(0), -1);
    }

    private static void theirsNo() {
        edges.of(19, "NO: it is right, or READ.");
        OneWordWrong x = said();
        x.keep(0, 0);
        x.keep(1, 2);
        x.keep(1, 1);
        x.keep(3, 3);
        due("right, not READ", x.theirs(0), -2);
        due("READ, changed", x.theirs(1), -2);
        due("right and READ", x.theirs(2), -2);
        due("right, not READ, no MENDS", x.theirs(3), -2);
    }

    // ---- THE HAND

    private static void termsSixty() {
        edges.of(Edges.TERMS, "A HAND: errors as they come (60 at most): changes C 0 to 4");
        OneWordWrong x = new OneWordWrong();
        for (int k = 1; k <= 60; k++) {
            due("error " + k, x.err(k % 5), k);
        }
        due("a 61st", x.err(0), -3);
        for (int c = 0; c < 5; c++) {
            due("change " + c + " came twelve times", x.price(c, true), 9);
        }
        due("change -1 is none", x.err(-1), -1);
        due("change 5 is none", x.err(5), -1);
    }

    private static void errHowMany() {
        edges.of(20, "An error of THE HAND: how many.");
        OneWordWrong x = new OneWordWrong();
        due("the first", x.err(0), 1);
        due("the same change", x.err(0), 2);
        due("the last change", x.err(4), 3);
        due("counted", x.count(4), 3);
    }

    private static void errBad() {
        edges.of(20, "BAD");
        OneWordWrong x = new OneWordWrong();
        for (int change : new int[] {-1, 5, 6, 256, Integer.MIN_VALUE, Integer.MAX_VALUE}) {
            due("change " + change, x.err(change), -1);
        }
        due("none came", x.count(4), 0);
        due("PRICES as told", x.price(0, true), 3);
    }

    private static void errFull() {
        edges.of(20, "FULL: 60.");
        OneWordWrong x = new OneWordWrong();
        for (int k = 0; k < 59; k++) {
            x.err(1);
        }
        due("the 60th", x.err(2), 60);
        due("a 61st", x.err(3), -3);
        due("again", x.err(1), -3);
        due("BAD ahead of FULL", x.err(5), -1);
        due("sixty", x.count(4), 60);
        due("the 61st did not come", x.price(3, true), 10);
        due("nor did the first go", x.price(1, true), 2);
        due("the latest is the 60th", x.gone(2, 1), 0);
        due("lay", x.lay(), 0);
        due("there is room again", x.err(0), 1);
    }

    private static void termsGone() {
        edges.of(Edges.TERMS, "GONE is C, if it came, but not among the latest n (1 to 60)");
        OneWordWrong x = new OneWordWrong();
        for (int c = 0; c < 5; c++) {
            due("no errors, change " + c, x.gone(c, 1), 0);
        }
        x.err(3);
        for (int k = 1; k < 60; k++) {
            due("it came " + k + " ago", x.gone(3, k), 0);
            x.err(1);
            due("it is not among the latest " + k, x.gone(3, k), 1);
            due("it is among the latest " + (k + 1), x.gone(3, k + 1), 0);
        }
        due("among all sixty", x.gone(3, 60), 0);
        due("behind 59", x.gone(3, 59), 1);
        due("what never came", x.gone(0, 60), 0);
        due("what came first and last", x.gone(1, 1), 0);
    }

    private static void goneOneOrNone() {
        edges.of(21, "1: GONE; 0.");
        OneWordWrong x = new OneWordWrong();
        x.err(2);
        due("just now", x.gone(2, 1), 0);
        due("more than there are", x.gone(2, 60), 0);
        x.err(0);
        due("one ago", x.gone(2, 1), 1);
        due("of the latest two", x.gone(2, 2), 0);
        x.err(2);
        due("it came again", x.gone(2, 1), 0);
        due("the other is GONE now", x.gone(0, 1), 1);
        due("the other, of two", x.gone(0, 2), 0);
        due("one that never came", x.gone(4, 1), 0);
    }

    private static void goneBad() {
        edges.of(21, "BAD.");
        OneWordWrong x = new OneWordWrong();
        x.err(0);
        x.err(1);
        for (int change : new int[] {-1, 5, 6, Integer.MIN_VALUE, Integer.MAX_VALUE}) {
            due("change " + change, x.gone(change, 1), -1);
        }
        for (int n : new int[] {0, -1, 61, 62, Integer.MIN_VALUE, Integer.MAX_VALUE}) {
            due("n " + n, x.gone(0, n), -1);
            due("n " + n + " of one that never came", x.gone(4, n), -1);
        }
        due("n 1", x.gone(0, 1), 1);
        due("n 60", x.gone(0, 60), 0);
        due("change 4", x.gone(4, 60), 0);
    }

    private static void countWhat() {
        edges.of(22, "How many: 0 WORDS, 1 RULES, 2 bytes of THE TEXT, 3 KEPT, 4 errors, 5 WORDS of all SENTENCES.");
        OneWordWrong x = new OneWordWrong();
        for (int what = 0; what < 6; what++) {
            due("at first, " + what, x.count(what), 0);
        }
        Check.writeText(x, "w0,0,0,0;".repeat(16) + "r0,0,0,0,0;".repeat(22) + "p0,09;p0,1;");
        due("written, not LAID: WORDS", x.count(0), 0);
        due("written, not LAID: RULES", x.count(1), 0);
        due("bytes", x.count(2), 397);
        due("three more", x.write(3, 0), 400);
        due("bytes, all", x.count(2), 400);
        due("a FAULT now", x.lay(), -2);
        x.wipe();
        Check.writeText(x, "w0,0,0,0;".repeat(14) + "r0,0,0,0,0;".repeat(24));
        x.lay();
        due("WORDS", x.count(0), 14);
        due("RULES", x.count(1), 24);
        due("bytes of both", x.count(2), 390);
        for (int k = 0; k < 60; k++) {
            x.err(0);
        }
        Check.say(x, 0, 0);
        for (int k = 0; k < 12; k++) {
            x.keep(0, 0);
        }
        due("KEPT", x.count(3), 12);
        due("errors", x.count(4), 60);
        due("WORDS of all SENTENCES", x.count(5), 1);
    }

    private static void countSentences() {
        edges.of(22, "5 WORDS of all SENTENCES");
        OneWordWrong x = said();
        due("four of two", x.count(5), 8);
        x.clear(0);
        due("three of two", x.count(5), 6);
        for (int s = 0; s < 8; s++) {
            Check.say(x, s, 0, 0, 0, 0, 0, 0, 0, 0);
        }
        due("eight of eight", x.count(5), 64);
        x.lay();
        due("none", x.count(5), 0);
    }

    private static void countBad() {
        edges.of(22, "BAD.");
        OneWordWrong x = said();
        for (int what : new int[] {-1, 6, 7, Integer.MIN_VALUE, Integer.MAX_VALUE}) {
            due("what " + what, x.count(what), -1);
        }
        due("what 5 is told", x.count(5), 8);
    }
}
