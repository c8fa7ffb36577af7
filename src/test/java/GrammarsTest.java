/** Promises 1 to 6: a new object, write, wipe, fault, lay, price. */
public final class GrammarsTest {
    private static final Check CHECK = new Check("GrammarsTest");
    private static final String SMALL = "r0,1,2,1,0;w1,0,0,0;w1,1,0,1;w2,0,1,2;w2,1,1,3;w1,0,2,3;";

    public static void main(String[] args) {
        promise1New();
        promise2Write();
        promise3Wipe();
        promise4Fault();
        promise5Lay();
        promise5LayRefused();
        promise6Price();
        CHECK.end();
    }

    private static void due(String call, long got, long want) {
        CHECK.due(call, got, want);
    }

    private static void promise1New() {
        OneWordWrong x = new OneWordWrong();
        for (int what = 0; what <= 5; what++) {
            due("new: count(" + what + ")", x.count(what), 0);
        }
        int[] first = {3, 4, 6, 5, 5};
        for (int c = 0; c < 5; c++) {
            due("new: price(" + c + ", false)", x.price(c, false), first[c]);
            due("new: price(" + c + ", true)", x.price(c, true), first[c]);
        }
        due("new: fault", x.fault(), -4);
        due("new: word", x.word(0, 0), -1);
        due("new: trees", x.trees(7, -1), -2);
        due("new: least", x.least(0, true), -2);
        due("new: mend", x.mend(0, -1, 0), -2);
        due("new: heaps", x.heaps(0, 0, 0), -2);
        due("new: bars", x.bars(0), -2);
        due("new: part", x.part(0, 0, 1, 0, 0), -1);
        due("new: quote", x.quote(3, 0), 0);
        due("new: clear", x.clear(3), 0);
        due("new: keep", x.keep(0, 1), -2);
        due("new: kept(1)", x.kept(1), 0);
        due("new: byRule", x.byRule(0), -1);
        due("new: theirs", x.theirs(0), -1);
        due("new: gone", x.gone(0, 1), 0);
        due("new: lay", x.lay(), 0);
        due("new: wipe", x.wipe(), 0);
    }

    private static void promise2Write() {
        OneWordWrong x = new OneWordWrong();
        due("write(0)", x.write(0, 59), -1);
        due("write(9)", x.write(9, 59), -1);
        due("write(-1)", x.write(-1, 59), -1);
        due("write(min)", x.write(Integer.MIN_VALUE, 59), -1);
        due("write(max)", x.write(Integer.MAX_VALUE, 59), -1);
        due("bytes behind BAD", x.count(2), 0);
        // "p0,7;" in two parts; what stands above the n bytes of v does not count
        due("write the lower bytes", x.write(3, 0x1122334470302cL), 3);
        due("write two more", x.write(2, 0xffffffff0000373bL), 5);
        due("lay", x.lay(), 0);
        due("the highest byte came first", x.price(0, false), 7);
        due("all eight bytes", x.write(8, 0x70312c383b70322cL), 13);
        due("the last two", x.write(2, 0x393bL), 15);
        due("lay again", x.lay(), 0);
        due("price 1", x.price(1, false), 8);
        due("price 2", x.price(2, false), 9);
        due("eight bytes of -1", x.write(8, -1L), 23);
        due("bytes above 127 are none of an ITEM", x.fault(), 15);

        OneWordWrong y = new OneWordWrong();
        for (int k = 1; k < 50; k++) {
            due("write eight", y.write(8, 0), 8L * k);
        }
        due("write seven", y.write(7, 0), 399);
        due("two do not fit", y.write(2, 0), -3);
        due("nothing of them came", y.count(2), 399);
        due("one fits", y.write(1, 0), 400);
        due("no more", y.write(1, 0), -3);
        due("BAD ahead of FULL", y.write(0, 0), -1);
        due("full is 400", y.wipe(), 400);
        due("room again", y.write(8, 0), 8);
    }

    private static void promise3Wipe() {
        OneWordWrong x = Check.laid(SMALL);
        due("wipe", x.wipe(), SMALL.length());
        due("bytes", x.count(2), 0);
        due("wipe again", x.wipe(), 0);
        due("LAID stays", x.count(0), 5);
        due("its WORDS can be said", x.word(0, 4), 1);
        due("an empty TEXT has no FAULT", x.fault(), -4);
    }

    private static void fault(String text, int want) {
        OneWordWrong x = new OneWordWrong();
        Check.writeText(x, text);
        due("fault of " + text, x.fault(), want);
        due("lay of " + text + " is refused", x.lay() == -2 ? 1 : 0, want == -4 ? 0 : 1);
    }

    private static void promise4Fault() {
        String[] good = {"", "w0,0,0,0;", "w9,3,15,15;", "w09,03,00,07;", "r0,1,2,1,0;", "r9,9,9,1,1;", "r00,01,02,00,01;",
            "p0,0;", "p4,99;", "p04,05;", "p0,1;p0,2;", SMALL, "w0,0,0,0;".repeat(16), "r0,0,0,0,0;".repeat(24),
            "p0,1;".repeat(80)};
        for (String text : good) {
            fault(text, -4);
        }
        String[] bad = {"w10,0,0,0;", "w0,4,0,0;", "w0,0,16,0;", "w0,0,0,16;", "w0,0,0;", "w0,0,0,0,0;", "w;", "w", "w0,0,0,0",
            "w0,0,0,0,", "w0,,0,0;", "w0,0,0,;", "w,0,0,0;", "w000,0,0,0;", "w0,0,0,015;", "w-1,0,0,0;", "w0.0,0,0;",
            "W0,0,0,0;", " w0,0,0,0;", "w 0,0,0,0;", "w0,0,0,0 ;", "r10,0,0,0,0;", "r0,10,0,0,0;", "r0,0,10,0,0;",
            "r0,0,0,2,0;", "r0,0,0,0,2;", "r0,0,0,0;", "r0,0,0,0,0,0;", "r0,0,0,0,0", "p5,0;", "p0,100;", "p0;", "p0,1,2;",
            "p0,1", "p", "x;", ";", "0;", ",", "a0,0;", "\n", "w0,0,0,0,0,0,0,0,0;"};
        for (String text : bad) {
            fault(text, 0);
            fault("p0,1;" + text, 5);
            fault("w9,3,15,15;p0,1;" + text + "w0,0,0,0;", 16);
        }
        fault("w0,0,0,0;;", 9);
        fault("w0,0,0,0;".repeat(17), 144);
        fault("w0,0,0,0;".repeat(16) + "p0,0;r0,0,0,0,0;", -4);
        fault("w0,0,0,0;".repeat(16) + "p0,0;w0,0,0,0;", 149);
        fault("r0,0,0,0,0;".repeat(25), 264);
        fault("x;".repeat(200), 0);
    }

    private static void promise5Lay() {
        OneWordWrong x = Check.laid(SMALL + "p2,1;");
        due("WORDS", x.count(0), 5);
        due("RULES", x.count(1), 1);
        Check.say(x, 0, 0, 3);
        Check.say(x, 7, 0, 2);
        x.quote(0, 5);
        x.quote(6, 255);
        x.keep(0, 7);
        x.keep(0, 0);
        x.err(1);
        due("lay the same again", x.lay(), 5);
        due("SENTENCES are empty", x.count(5), 0);
        due("SENTENCE 0 too", x.trees(0, -1), -2);
        due("none KEPT", x.count(3), 0);
        due("none to count", x.kept(1), 0);
        due("no errors", x.count(4), 0);
        due("no FITTED PRICE", x.price(1, true), 4);
        due("nothing QUOTED", x.quote(0, 0), 0);
        due("nor in an empty one", x.quote(6, 0), 0);
        due("the TEXT stays", x.count(2), SMALL.length() + 5);
        due("PRICE told", x.price(2, false), 1);
        x.wipe();
        Check.writeText(x, "p0,42;w3,2,1,0;");
        due("what is written is not LAID", x.price(2, false), 1);
        due("lay another", x.lay(), 1);
        due("a PRICE that is not told any more", x.price(2, false), 6);
        due("one that is", x.price(0, false), 42);
        due("no RULES", x.count(1), 0);
        due("no such WORD", x.word(0, 1), -1);
        due("that WORD", x.word(0, 0), 1);
        due("its KIND and MARK", x.part(0, 0, 1, 3, 2), 1);
    }

    private static void promise5LayRefused() {
        OneWordWrong x = Check.laid(SMALL);
        Check.say(x, 0, 0, 3);
        Check.say(x, 1, 0, 2);
        x.quote(0, 2);
        x.keep(0, 1);
        x.err(3);
        Check.writeText(x, "p0,9;w");
        due("lay with a FAULT", x.lay(), -2);
        due("WORDS stay", x.count(0), 5);
        due("RULES stay", x.count(1), 1);
        due("SENTENCES stay", x.count(5), 4);
        due("KEPT stay", x.count(3), 1);
        due("errors stay", x.count(4), 1);
        due("PRICES stay", x.price(0, false), 3);
        due("RULES still read", x.trees(1, -1), 1);
        due("QUOTED stays", x.quote(0, 0), 2);
    }

    private static void promise6Price() {
        OneWordWrong x = Check.laid("p0,99;p1,0;p0,7;p3,12;");
        int[] told = {7, 0, 6, 12, 5};
        for (int c = 0; c < 5; c++) {
            due("as told " + c, x.price(c, false), told[c]);
            due("without errors " + c, x.price(c, true), told[c]);
        }
        due("price(-1)", x.price(-1, false), -1);
        due("price(5)", x.price(5, true), -1);
        due("price(max)", x.price(Integer.MAX_VALUE, true), -1);
        x.err(4);
        due("all errors are IN", x.price(4, true), 1);
        due("none is FORM", x.price(0, true), 10);
        due("as told all the same", x.price(4, false), 5);
        x.err(0);
        x.err(0);
        due("9 of 3, cut: 3", x.price(4, true), 7);
        due("18 of 3: 6", x.price(0, true), 4);
        x.err(2);
        due("9 of 4, cut: 2", x.price(2, true), 8);
        due("18 of 4, cut: 4", x.price(0, true), 6);
        due("SOUND never came", x.price(1, true), 10);
    }
}
