/** Promises 16 to 22: keep, kept, byRule, theirs, err, gone, count. */
public final class KeptTest {
    private static final Check CHECK = new Check("KeptTest");
    private static final String SMALL = "r0,1,2,1,0;w1,0,0,0;w1,1,0,1;w2,0,1,2;w2,1,1,3;w1,0,2,3;";

    public static void main(String[] args) {
        promise16Keep();
        promise17Kept();
        promise18ByRule();
        promise19Theirs();
        promise20Err();
        promise21Gone();
        promise22Count();
        CHECK.end();
    }

    private static void due(String call, long got, long want) {
        CHECK.due(call, got, want);
    }

    private static void promise16Keep() {
        OneWordWrong x = Check.laid(SMALL);
        due("both empty", x.keep(0, 1), -2);
        Check.say(x, 0, 0, 3);
        due("the other is empty", x.keep(0, 1), -2);
        due("the first is empty", x.keep(1, 0), -2);
        due("s 8", x.keep(8, 0), -1);
        due("t 8", x.keep(0, 8), -1);
        due("s -1", x.keep(-1, 0), -1);
        due("t -1", x.keep(0, -1), -1);
        due("BAD ahead of NO", x.keep(1, 8), -1);
        Check.say(x, 2, 0, 2);
        for (int k = 0; k < 12; k++) {
            due("its number", x.keep(0, k < 11 ? 2 : 0), k);
        }
        due("a thirteenth", x.keep(0, 2), -3);
        due("NO ahead of FULL", x.keep(0, 1), -2);
        due("BAD ahead of FULL", x.keep(0, 8), -1);
        due("twelve", x.count(3), 12);
        x.clear(0);
        x.clear(2);
        due("they are KEPT as they were", x.kept(0), 11);
        due("the right one too", x.kept(2), 1);
    }

    private static void promise17Kept() {
        OneWordWrong x = Check.laid(SMALL);
        Check.say(x, 0, 0, 3);
        Check.say(x, 1, 0, 2);
        Check.say(x, 2, 1, 3);
        Check.say(x, 3, 2, 2);
        Check.say(x, 4, 3, 0);
        due("kept(-1)", x.kept(-1), -1);
        due("kept(3)", x.kept(3), -1);
        x.keep(0, 1);
        due("the first MEND is theirs", x.kept(0), 1);
        x.keep(0, 2);
        due("the second is", x.kept(0), 1);
        due("by two", x.kept(1), 2);
        x.keep(1, 2);
        due("READ, though people changed it", x.kept(1), 2);
        x.keep(4, 1);
        due("no MENDS", x.kept(0), 1);
        due("by three", x.kept(1), 3);
        due("none WRONGED", x.kept(2), 0);
        x.keep(1, 1);
        due("right and READ", x.kept(2), 0);
        x.keep(3, 3);
        x.keep(0, 0);
        due("two WRONGED", x.kept(2), 2);
        due("right ones are not by", x.kept(1), 3);
        x.quote(0, 1);
        x.keep(0, 2);
        x.quote(0, 3);
        x.keep(0, 1);
        due("nothing is QUOTED in KEPT ones", x.kept(0), 2);
        due("by five", x.kept(1), 5);
        due("the SENTENCE's own MENDS are not those of KEPT ones", x.mend(0, -1, 0), 0);
    }

    private static void promise18ByRule() {
        OneWordWrong x = Check.laid("w1,0,0,0;w2,1,0,0;w3,1,0,0;w3,0,0,0;r4,1,2,1,0;r0,4,3,1,0;r0,1,2,1,0;r0,1,3,0,0;r0,1,2,1,1;");
        Check.say(x, 0, 0, 1);
        Check.say(x, 1, 0, 1, 3);
        Check.say(x, 2, 0, 1, 2);
        Check.say(x, 3, 0, 2);
        x.keep(0, 0);
        due("not by RULE 0", x.byRule(0), 0);
        due("by RULE 2", x.byRule(2), 1);
        due("by RULE 4 as well", x.byRule(4), 1);
        x.keep(1, 1);
        due("by RULE 0", x.byRule(0), 1);
        due("not by RULE 1", x.byRule(1), 0);
        x.keep(2, 2);
        due("two RULES bar it, none alone", x.byRule(0) + x.byRule(1), 1);
        x.keep(3, 3);
        due("READ", x.byRule(3), 0);
        x.keep(0, 3);
        due("people changed it", x.byRule(2), 1);
        x.keep(0, 0);
        due("another one", x.byRule(2), 2);
        due("rule -1", x.byRule(-1), -1);
        due("rule 5", x.byRule(5), -1);
        due("rule max", x.byRule(Integer.MAX_VALUE), -1);
        due("WRONGED in all", x.kept(2), 4);
        OneWordWrong last = Check.laid("w1,0,0,0;w1,1,0,0;" + "r9,9,9,1,0;".repeat(23) + "r0,1,1,1,0;");
        Check.say(last, 0, 0, 1);
        last.keep(0, 0);
        due("by the 24th RULE", last.byRule(23), 1);
        due("not by the 23rd", last.byRule(22), 0);
        due("there is no 25th", last.byRule(24), -1);
    }

    private static void promise19Theirs() {
        OneWordWrong x = Check.laid(SMALL);
        Check.say(x, 0, 0, 3);
        Check.say(x, 1, 0, 2);
        Check.say(x, 2, 1, 3);
        Check.say(x, 3, 4, 2);
        due("none KEPT", x.theirs(0), -1);
        x.keep(0, 1);
        x.keep(0, 2);
        x.keep(0, 3);
        x.keep(0, 0);
        x.keep(1, 2);
        x.keep(1, 1);
        due("the first", x.theirs(0), 0);
        due("the second", x.theirs(1), 1);
        due("not among MENDS", x.theirs(2), -4);
        due("right", x.theirs(3), -2);
        due("READ", x.theirs(4), -2);
        due("right and READ", x.theirs(5), -2);
        due("k 6", x.theirs(6), -1);
        due("k -1", x.theirs(-1), -1);
        x.quote(0, 1);
        x.keep(0, 2);
        due("QUOTED in the SENTENCE, not when KEPT", x.theirs(6), 1);
        StringBuilder sixteen = new StringBuilder();
        for (int w = 0; w < 16; w++) {
            sixteen.append("w1,0," + w + "," + w + ";");
        }
        OneWordWrong y = Check.laid(sixteen + "r2,1,1,0,0;r0,2,2,0,0;");
        Check.say(y, 0, 5, 6, 7);
        Check.say(y, 1, 5, 6, 13, 7);
        Check.say(y, 2, 5, 6, 14, 7);
        y.keep(0, 1);
        y.keep(0, 2);
        due("the fortieth", y.theirs(0), 39);
        due("the next would be too many", y.theirs(1), -4);
    }

    private static void promise20Err() {
        OneWordWrong x = new OneWordWrong();
        due("err(-1)", x.err(-1), -1);
        due("err(5)", x.err(5), -1);
        due("none came", x.count(4), 0);
        for (int k = 1; k <= 60; k++) {
            due("err", x.err(k % 5), k);
        }
        due("a 61st", x.err(0), -3);
        due("BAD ahead of FULL", x.err(5), -1);
        due("sixty", x.count(4), 60);
        due("a fifth each", x.price(0, true), 9);
        due("lay", x.lay(), 0);
        due("room again", x.err(0), 1);
    }

    private static void promise21Gone() {
        OneWordWrong x = new OneWordWrong();
        due("never came", x.gone(2, 1), 0);
        x.err(2);
        due("just now", x.gone(2, 1), 0);
        x.err(0);
        due("one ago", x.gone(2, 1), 1);
        due("of the latest two", x.gone(2, 2), 0);
        due("more than there are", x.gone(2, 60), 0);
        due("the latest", x.gone(0, 1), 0);
        due("another never came", x.gone(4, 1), 0);
        x.err(2);
        due("came again", x.gone(2, 1), 0);
        due("gone now", x.gone(0, 1), 1);
        due("change -1", x.gone(-1, 1), -1);
        due("change 5", x.gone(5, 1), -1);
        due("n 0", x.gone(0, 0), -1);
        due("n -1", x.gone(0, Integer.MIN_VALUE), -1);
        due("n 61", x.gone(0, 61), -1);
        for (int k = 3; k < 60; k++) {
            x.err(4);
        }
        due("57 ago", x.gone(2, 57), 1);
        due("of the latest 58", x.gone(2, 58), 0);
        due("0 of the latest 59", x.gone(0, 59), 0);
        due("0 behind the latest 58", x.gone(0, 58), 1);
        due("2 came first and third", x.gone(2, 60), 0);
    }

    private static void promise22Count() {
        OneWordWrong x = Check.laid(SMALL);
        Check.say(x, 0, 0, 3);
        Check.say(x, 7, 0, 2, 2);
        x.keep(0, 7);
        x.keep(0, 7);
        x.err(0);
        x.err(0);
        x.err(0);
        x.write(2, 0);
        due("WORDS", x.count(0), 5);
        due("RULES", x.count(1), 1);
        due("bytes", x.count(2), SMALL.length() + 2);
        due("KEPT", x.count(3), 2);
        due("errors", x.count(4), 3);
        due("WORDS of all SENTENCES", x.count(5), 5);
        due("count(-1)", x.count(-1), -1);
        due("count(6)", x.count(6), -1);
        due("count(max)", x.count(Integer.MAX_VALUE), -1);
        x.clear(7);
        due("without one", x.count(5), 2);
    }
}
