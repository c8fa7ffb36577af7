import java.util.Arrays;

/** Sentences of learners, read by a grammar that is told in a text; see README.md. */
public final class OneWordWrong {
    public static final int BAD = -1, NO = -2, FULL = -3, NONE = -4;

    private static final int MOST_BYTES = 400;
    private static final int MOST_NUMBERS = 5;
    private static final int MOST_WORDS = 16;
    private static final int MOST_RULES = 24;
    private static final int KINDS = 10;
    private static final int MARKS = 4;
    private static final int STATES = KINDS * MARKS;
    private static final int FAMILIES = 16;

    private static final int FORM = 0, SOUND = 1, OTHER = 2, OUT = 3, IN = 4;
    private static final int CHANGES = 5;
    private static final int TOP_PRICE = 99;
    private static final int TOO_DEAR = 100;

    private static final int SENTENCES = 8;
    private static final int PLACES = 8;
    private static final int TOP_QUOTED = 255;
    private static final int MOST_MENDS = 40;
    private static final int MOST_BARS = 3;
    /** As many sets of three as there are among 24 RULES. */
    private static final int MOST_SETS = 2024;
    private static final int LANES = 64;
    private static final int MOST_KEPT = 12;
    private static final int MOST_ERRORS = 60;

    private static final int[] WORD_TOPS = {9, 3, 15, 15};
    private static final int[] RULE_TOPS = {9, 9, 9, 1, 1};
    private static final int[] PRICE_TOPS = {4, 99};
    private static final int[] FIRST_PRICES = {3, 4, 6, 5, 5};

    private final Text text = new Text();
    /** The two change places when a TEXT is LAID, so that a FAULT leaves the LAID one alone. */
    private Grammar laid = new Grammar();
    private Grammar trial = new Grammar();
    private final Row[] sentences = new Row[SENTENCES];
    private final KeptOne[] keptOnes = new KeptOne[MOST_KEPT];
    private int keptSize = 0;
    private final Hand hand = new Hand();
    private final int[] prices = new int[CHANGES];

    private final TreeTable treeTable = new TreeTable();
    private final PriceTable priceTable = new PriceTable();
    private final Lanes lanes = new Lanes();
    private final BarFinder barFinder = new BarFinder();
    private final Mends mends = new Mends();
    /** The SENTENCE whose MENDS are held, so that asking for one after the other finds them once; or -1. */
    private int mendsOf = -1;

    public OneWordWrong() {
        for (int s = 0; s < SENTENCES; s++) {
            sentences[s] = new Row();
        }
        for (int k = 0; k < MOST_KEPT; k++) {
            keptOnes[k] = new KeptOne();
        }
    }

    // ---- grammars

    public int write(int n, long v) {
        if (!isWithin(n, 1, 8)) {
            return BAD;
        }
        if (text.size + n > MOST_BYTES) {
            return FULL;
        }
        for (int k = n - 1; k >= 0; k--) {
            text.append((int) (v >>> (8 * k)) & 255);
        }
        return text.size;
    }

    public int wipe() {
        int was = text.size;
        text.size = 0;
        return was;
    }

    public int fault() {
        return text.tellTo(trial);
    }

    public int lay() {
        if (text.tellTo(trial) != NONE) {
            return NO;
        }
        Grammar before = laid;
        laid = trial;
        trial = before;
        for (int s = 0; s < SENTENCES; s++) {
            sentences[s].restart();
        }
        keptSize = 0;
        hand.size = 0;
        mendsOf = -1;
        return laid.words;
    }

    public int price(int change, boolean fitted) {
        if (!isWithin(change, 0, CHANGES - 1)) {
            return BAD;
        }
        return priceOf(change, fitted);
    }

    // ---- sentences

    public int word(int s, int word) {
        if (!isSentence(s) || !isWithin(word, 0, laid.words - 1)) {
            return BAD;
        }
        Row row = sentences[s];
        if (row.size >= PLACES) {
            return FULL;
        }
        row.append(word);
        mendsOf = -1;
        return row.size;
    }

    public int clear(int s) {
        if (!isSentence(s)) {
            return BAD;
        }
        int was = sentences[s].size;
        sentences[s].restart();
        mendsOf = -1;
        return was;
    }

    public int quote(int s, int places) {
        if (!isSentence(s) || !isWithin(places, 0, TOP_QUOTED)) {
            return BAD;
        }
        int was = sentences[s].quoted;
        sentences[s].quoted = places;
        mendsOf = -1;
        return was;
    }

    public long trees(int s, int mark) {
        if (!isSentence(s) || !isWithin(mark, -1, MARKS - 1)) {
            return BAD;
        }
        Row row = sentences[s];
        if (row.size == 0) {
            return NO;
        }
        treeTable.fill(laid, row);
        return mark == -1 ? treeTable.overAll(row.size) : treeTable.treesOver(0, row.size, 0, mark);
    }

    public int part(int s, int from, int n, int kind, int mark) {
        if (!isSentence(s) || !isWithin(kind, 0, KINDS - 1) || !isWithin(mark, 0, MARKS - 1)) {
            return BAD;
        }
        Row row = sentences[s];
        if (!isWithin(from, 0, row.size - 1) || !isWithin(n, 1, row.size - from)) {
            return BAD;
        }
        treeTable.fill(laid, row);
        return treeTable.treesOver(from, n, kind, mark) > 0 ? 1 : 0;
    }

    public int least(int s, boolean fitted) {
        if (!isSentence(s)) {
            return BAD;
        }
        if (sentences[s].size == 0) {
            return NO;
        }
        for (int change = 0; change < CHANGES; change++) {
            prices[change] = priceOf(change, fitted);
        }
        int sum = priceTable.leastSum(laid, sentences[s], prices);
        return sum <= TOP_PRICE ? sum : NONE;
    }

    public int mend(int s, int i, int what) {
        if (!isSentence(s) || i < -1 || !isWithin(what, 0, PLACES + 1)) {
            return BAD;
        }
        if (!canBeMended(sentences[s])) {
            return NO;
        }
        findMends(s);
        if (i == -1) {
            return mends.size;
        }
        if (i >= mends.size) {
            return NONE;
        }
        Row row = mends.rows[i];
        if (what == 0) {
            return mends.costs[i];
        }
        if (what == 1) {
            return row.size;
        }
        return what - 2 < row.size ? row.words[what - 2] : NONE;
    }

    public int heaps(int s, int d, int what) {
        if (!isSentence(s) || !isWithin(d, 0, TOP_PRICE) || !isWithin(what, 0, 2)) {
            return BAD;
        }
        if (!canBeMended(sentences[s])) {
            return NO;
        }
        findMends(s);
        mends.gatherHeaps(laid);
        if (what == 0) {
            return mends.heapsSize;
        }
        if (mends.heapsSize == 0) {
            return NONE;
        }
        if (what == 1) {
            return mends.firstStandsOut(d) ? 1 : 0;
        }
        return mends.heapsSize < 2 ? NONE : mends.askedPlace(laid);
    }

    public int bars(int s) {
        if (!isSentence(s)) {
            return BAD;
        }
        Row row = sentences[s];
        if (row.size == 0) {
            return NO;
        }
        return isRead(row) ? 0 : barFinder.fewest(laid, row, lanes);
    }

    // ---- kept, hands

    public int keep(int s, int t) {
        if (!isSentence(s) || !isSentence(t)) {
            return BAD;
        }
        Row said = sentences[s];
        Row made = sentences[t];
        if (said.size == 0 || made.size == 0) {
            return NO;
        }
        if (keptSize >= MOST_KEPT) {
            return FULL;
        }
        KeptOne one = keptOnes[keptSize];
        one.right = said.orderTo(made) == 0;
        one.read = isRead(said);
        one.place = NONE;
        one.freeing = 0;
        // LAID and its PRICES stay while a SENTENCE is KEPT, so what it is asked for is found once, here.
        if (!one.read && one.right) {
            one.freeing = barFinder.singleRules(laid, said, lanes);
        }
        if (!one.read && !one.right) {
            mendsOf = -1;
            mends.find(laid, said, 0, lanes);
            one.place = mends.placeOf(made);
        }
        keptSize++;
        return keptSize - 1;
    }

    public int kept(int what) {
        if (!isWithin(what, 0, 2)) {
            return BAD;
        }
        int sum = 0;
        for (int k = 0; k < keptSize; k++) {
            KeptOne one = keptOnes[k];
            boolean counts = what == 2 ? one.isWronged() : one.isChangedUnread();
            if (counts && (what != 0 || one.place == 0)) {
                sum++;
            }
        }
        return sum;
    }

    public int byRule(int rule) {
        if (!isWithin(rule, 0, laid.rules - 1)) {
            return BAD;
        }
        int sum = 0;
        for (int k = 0; k < keptSize; k++) {
            if (keptOnes[k].isWronged() && hasBit(keptOnes[k].freeing, rule)) {
                sum++;
            }
        }
        return sum;
    }

    public int theirs(int k) {
        if (!isWithin(k, 0, keptSize - 1)) {
            return BAD;
        }
        return keptOnes[k].isChangedUnread() ? keptOnes[k].place : NO;
    }

    public int err(int change) {
        if (!isWithin(change, 0, CHANGES - 1)) {
            return BAD;
        }
        if (hand.size >= MOST_ERRORS) {
            return FULL;
        }
        hand.append(change);
        return hand.size;
    }

    public int gone(int change, int n) {
        if (!isWithin(change, 0, CHANGES - 1) || !isWithin(n, 1, MOST_ERRORS)) {
            return BAD;
        }
        return hand.cameSince(change, 0) && !hand.cameSince(change, hand.size - n) ? 1 : 0;
    }

    public int count(int what) {
        switch (what) {
            case 0: return laid.words;
            case 1: return laid.rules;
            case 2: return text.size;
            case 3: return keptSize;
            case 4: return hand.size;
            case 5: return wordsOfSentences();
            default: return BAD;
        }
    }

    // ---- what the calls share

    private static boolean isWithin(int value, int low, int high) {
        return value >= low && value <= high;
    }

    private static boolean isSentence(int s) {
        return isWithin(s, 0, SENTENCES - 1);
    }

    private static boolean hasBit(int bits, int place) {
        return (bits >> place & 1) == 1;
    }

    private int priceOf(int change, boolean fitted) {
        return fitted && hand.size > 0 ? hand.fittedPrice(change) : laid.told[change];
    }

    private boolean isRead(Row row) {
        treeTable.fill(laid, row);
        return treeTable.overAll(row.size) > 0;
    }

    private boolean canBeMended(Row row) {
        return row.size > 0 && !isRead(row);
    }

    private void findMends(int s) {
        if (mendsOf != s) {
            mends.find(laid, sentences[s], sentences[s].quoted, lanes);
            mendsOf = s;
        }
    }

    private int wordsOfSentences() {
        int sum = 0;
        for (int s = 0; s < SENTENCES; s++) {
            sum += sentences[s].size;
        }
        return sum;
    }

    /** THE TEXT, byte by byte. */
    private static final class Text {
        private final int[] bytes = new int[MOST_BYTES];
        private int size = 0;
        private final int[] numbers = new int[MOST_NUMBERS];
        private int numbersSize = 0;

        void append(int value) {
            if (size < MOST_BYTES) {
                bytes[size] = value;
                size++;
            }
        }

        /** Fills the grammar with the ITEMS up to the FAULT: its place, or NONE. */
        int tellTo(Grammar grammar) {
            grammar.restart();
            int at = 0;
            for (int items = 0; items < MOST_BYTES && at < size; items++) {
                int end = itemEnd(at);
                if (end == NONE || !grammar.takeItem(bytes[at], numbers, numbersSize)) {
                    return at;
                }
                at = end;
            }
            return NONE;
        }

        /** Reads the numbers of the ITEM whose letter is at a place: the place behind its ; or NONE. */
        private int itemEnd(int letterAt) {
            numbersSize = 0;
            int at = letterAt + 1;
            for (int k = 0; k < MOST_NUMBERS; k++) {
                if (!isFigure(at)) {
                    return NONE;
                }
                int value = bytes[at] - '0';
                at++;
                if (isFigure(at)) {
                    value = value * 10 + bytes[at] - '0';
                    at++;
                }
                numbers[k] = value;
                numbersSize = k + 1;
                if (at >= size || bytes[at] != ',' && bytes[at] != ';') {
                    return NONE;
                }
                at++;
                if (bytes[at - 1] == ';') {
                    return at;
                }
            }
            return NONE;
        }

        private boolean isFigure(int at) {
            return at < size && isWithin(bytes[at], '0', '9');
        }
    }

    /** What a TEXT tells: WORDS, RULES, PRICES. */
    private static final class Grammar {
        private final int[] kinds = new int[MOST_WORDS];
        private final int[] marks = new int[MOST_WORDS];
        private final int[] families = new int[MOST_WORDS];
        private final int[] sounds = new int[MOST_WORDS];
        private int words = 0;

        private final int[] wholes = new int[MOST_RULES];
        private final int[] firsts = new int[MOST_RULES];
        private final int[] seconds = new int[MOST_RULES];
        private final boolean[] agree = new boolean[MOST_RULES];
        private final boolean[] markOfSecond = new boolean[MOST_RULES];
        private int rules = 0;

        private final int[] told = FIRST_PRICES.clone();

        void restart() {
            words = 0;
            rules = 0;
            System.arraycopy(FIRST_PRICES, 0, told, 0, CHANGES);
        }

        /** Whether it is an ITEM; if it is, it counts from now on. */
        boolean takeItem(int letter, int[] numbers, int size) {
            switch (letter) {
                case 'w': return words < MOST_WORDS && areWithin(numbers, size, WORD_TOPS) && addWord(numbers);
                case 'r': return rules < MOST_RULES && areWithin(numbers, size, RULE_TOPS) && addRule(numbers);
                case 'p': return areWithin(numbers, size, PRICE_TOPS) && tellPrice(numbers);
                default: return false;
            }
        }

        private static boolean areWithin(int[] numbers, int size, int[] tops) {
            if (size != tops.length) {
                return false;
            }
            for (int k = 0; k < size; k++) {
                if (numbers[k] > tops[k]) {
                    return false;
                }
            }
            return true;
        }

        private boolean addWord(int[] numbers) {
            kinds[words] = numbers[0];
            marks[words] = numbers[1];
            families[words] = numbers[2];
            sounds[words] = numbers[3];
            words++;
            return true;
        }

        private boolean addRule(int[] numbers) {
            wholes[rules] = numbers[0];
            firsts[rules] = numbers[1];
            seconds[rules] = numbers[2];
            agree[rules] = numbers[3] == 1;
            markOfSecond[rules] = numbers[4] == 1;
            rules++;
            return true;
        }

        private boolean tellPrice(int[] numbers) {
            told[numbers[0]] = numbers[1];
            return true;
        }

        /** The KIND and MARK of a WORD as one number. */
        int stateOf(int word) {
            return kinds[word] * MARKS + marks[word];
        }

        /** The least of the PRICES for which a WORD becomes another; TOO_DEAR, if no change does that. */
        int swapPrice(int word, int other, int[] changePrices) {
            int least = TOO_DEAR;
            if (families[word] == families[other]) {
                least = Math.min(least, changePrices[FORM]);
            }
            if (sounds[word] == sounds[other]) {
                least = Math.min(least, changePrices[SOUND]);
            }
            if (kinds[word] == kinds[other]) {
                least = Math.min(least, changePrices[OTHER]);
            }
            return least;
        }
    }

    /** A row of WORDS, and what is QUOTED of it where it is a SENTENCE. */
    private static final class Row {
        private final int[] words = new int[PLACES];
        private int size = 0;
        private int quoted = 0;

        void restart() {
            size = 0;
            quoted = 0;
        }

        void append(int word) {
            if (size < PLACES) {
                words[size] = word;
                size++;
            }
        }

        void copyOf(Row other) {
            System.arraycopy(other.words, 0, words, 0, other.size);
            size = other.size;
        }

        void copySwapped(Row other, int place, int word) {
            copyOf(other);
            words[place] = word;
        }

        void copyWithout(Row other, int place) {
            size = 0;
            for (int p = 0; p < other.size; p++) {
                if (p != place) {
                    append(other.words[p]);
                }
            }
        }

        void copyWith(Row other, int gap, int word) {
            size = 0;
            for (int p = 0; p < gap; p++) {
                append(other.words[p]);
            }
            append(word);
            for (int p = gap; p < other.size; p++) {
                append(other.words[p]);
            }
        }

        /** Below 0: this one is ahead (shorter, or lower by WORDS); 0: they are alike. */
        int orderTo(Row other) {
            if (size != other.size) {
                return size - other.size;
            }
            for (int p = 0; p < size; p++) {
                if (words[p] != other.words[p]) {
                    return words[p] - other.words[p];
                }
            }
            return 0;
        }

        /** The FAMILY at a place; FAMILIES, which none has, behind the end. */
        int familyAt(Grammar grammar, int place) {
            return place < size ? grammar.families[words[place]] : FAMILIES;
        }

        boolean hasFamiliesOf(Grammar grammar, Row other) {
            for (int p = 0; p < PLACES; p++) {
                if (familyAt(grammar, p) != other.familyAt(grammar, p)) {
                    return false;
                }
            }
            return true;
        }
    }

    /** A table with a cell of KINDS and MARKS for each run of places, filled from the shorter runs to the longer. */
    private abstract static class SpanTable {
        final long[] cells = new long[PLACES * PLACES * STATES];

        static int span(int from, int n) {
            return (from * PLACES + n - 1) * STATES;
        }

        /** Adds to the cell of both what all RULES make of the left one and the right one. */
        abstract void joinSpans(Grammar grammar, int left, int right, int both);

        final void joinAll(Grammar grammar, int size) {
            for (int n = 2; n <= size; n++) {
                for (int from = 0; from + n <= size; from++) {
                    for (int k = 1; k < n; k++) {
                        joinSpans(grammar, span(from, k), span(from + k, n - k), span(from, n));
                    }
                }
            }
        }
    }

    /** How many TREES there are over each run of places. */
    private static final class TreeTable extends SpanTable {
        void fill(Grammar grammar, Row row) {
            Arrays.fill(cells, 0L);
            for (int p = 0; p < row.size; p++) {
                cells[span(p, 1) + grammar.stateOf(row.words[p])] = 1;
            }
            joinAll(grammar, row.size);
        }

        long treesOver(int from, int n, int kind, int mark) {
            return cells[span(from, n) + kind * MARKS + mark];
        }

        /** How many TREES of KIND 0 with any MARK are over the first n places. */
        long overAll(int n) {
            return sumAt(span(0, n));
        }

        void joinSpans(Grammar grammar, int left, int right, int both) {
            for (int r = 0; r < grammar.rules; r++) {
                int first = left + grammar.firsts[r] * MARKS;
                int second = right + grammar.seconds[r] * MARKS;
                int whole = both + grammar.wholes[r] * MARKS;
                long allFirst = sumAt(first);
                long allSecond = sumAt(second);
                for (int m = 0; m < MARKS && allFirst != 0 && allSecond != 0; m++) {
                    if (grammar.agree[r]) {
                        cells[whole + m] += cells[first + m] * cells[second + m];
                    } else if (grammar.markOfSecond[r]) {
                        cells[whole + m] += allFirst * cells[second + m];
                    } else {
                        cells[whole + m] += cells[first + m] * allSecond;
                    }
                }
            }
        }

        private long sumAt(int at) {
            return cells[at] + cells[at + 1] + cells[at + 2] + cells[at + 3];
        }
    }

    /**
     * Reads up to 64 rows of one length at once: bit l of each number in a cell stands for the l-th row,
     * its lane. Thus the many tries of MENDS and BARS take a few tables, not one each.
     */
    private static final class Lanes extends SpanTable {
        private final long[] free = new long[MOST_RULES];

        void restart() {
            Arrays.fill(cells, 0L);
            Arrays.fill(free, 0L);
        }

        void putRow(Grammar grammar, Row row, long inLanes) {
            for (int p = 0; p < row.size; p++) {
                cells[span(p, 1) + grammar.stateOf(row.words[p])] |= inLanes;
            }
        }

        /** In these lanes the RULE need not agree. */
        void freeRule(int rule, long inLanes) {
            free[rule] |= inLanes;
        }

        /** The lanes whose rows, of that many WORDS, are READ (behind joinAll). */
        long readLanes(int size) {
            return anyAt(span(0, size));
        }

        void joinSpans(Grammar grammar, int left, int right, int both) {
            for (int r = 0; r < grammar.rules; r++) {
                int first = left + grammar.firsts[r] * MARKS;
                int second = right + grammar.seconds[r] * MARKS;
                int whole = both + grammar.wholes[r] * MARKS;
                long anyFirst = anyAt(first);
                long anySecond = anyAt(second);
                long must = grammar.agree[r] ? ~free[r] : 0L;
                for (int m = 0; m < MARKS && (anyFirst & anySecond) != 0; m++) {
                    long alike = cells[first + m] & cells[second + m];
                    long headed = grammar.markOfSecond[r] ? anyFirst & cells[second + m] : cells[first + m] & anySecond;
                    cells[whole + m] |= (alike & must) | (headed & ~must);
                }
            }
        }

        private long anyAt(int at) {
            return cells[at] | cells[at + 1] | cells[at + 2] | cells[at + 3];
        }
    }

    /** The least sums of PRICES by which each run of places, the empty ones too, becomes a KIND with a MARK. */
    private static final class PriceTable {
        private static final int BOUNDS = PLACES + 1;
        private final int[] sums = new int[BOUNDS * BOUNDS * STATES];

        int leastSum(Grammar grammar, Row row, int[] changePrices) {
            int size = row.size;
            fillEmptyRuns(grammar, changePrices[IN], size);
            for (int n = 1; n <= size; n++) {
                for (int from = 0; from + n <= size; from++) {
                    startRun(grammar, row, changePrices, from, from + n);
                    joinInside(grammar, from, from + n);
                    joinWithPutIn(grammar, from, from + n);
                }
            }
            return cheapestAt(run(0, size));
        }

        private static int run(int from, int to) {
            return (from * BOUNDS + to) * STATES;
        }

        /** What WORDS that are put in make by themselves is alike between all places. */
        private void fillEmptyRuns(Grammar grammar, int inPrice, int size) {
            int none = run(0, 0);
            forbidAll(none);
            for (int w = 0; w < grammar.words; w++) {
                sums[none + grammar.stateOf(w)] = inPrice;
            }
            boolean moved = true;
            for (int turn = 0; turn <= STATES && moved; turn++) {
                moved = joinCells(grammar, none, none, none);
            }
            for (int at = 1; at <= size; at++) {
                System.arraycopy(sums, none, sums, run(at, at), STATES);
            }
        }

        /** A single WORD left or changed, or a shorter run beside a WORD that goes out. */
        private void startRun(Grammar grammar, Row row, int[] changePrices, int from, int to) {
            int cell = run(from, to);
            forbidAll(cell);
            if (to == from + 1) {
                putChanged(grammar, row, changePrices, from);
            }
            if (!hasBit(row.quoted, from)) {
                lowerAll(cell, run(from + 1, to), changePrices[OUT]);
            }
            if (!hasBit(row.quoted, to - 1)) {
                lowerAll(cell, run(from, to - 1), changePrices[OUT]);
            }
        }

        private void putChanged(Grammar grammar, Row row, int[] changePrices, int place) {
            int cell = run(place, place + 1);
            int own = row.words[place];
            sums[cell + grammar.stateOf(own)] = 0;
            for (int w = 0; w < grammar.words && !hasBit(row.quoted, place); w++) {
                lower(cell + grammar.stateOf(w), grammar.swapPrice(own, w, changePrices));
            }
        }

        private void forbidAll(int cell) {
            for (int state = 0; state < STATES; state++) {
                sums[cell + state] = TOO_DEAR;
            }
        }

        private void lowerAll(int cell, int shorter, int added) {
            for (int state = 0; state < STATES; state++) {
                lower(cell + state, sums[shorter + state] + added);
            }
        }

        private boolean lower(int at, int sum) {
            if (sum < sums[at]) {
                sums[at] = sum;
                return true;
            }
            return false;
        }

        private void joinInside(Grammar grammar, int from, int to) {
            for (int middle = from + 1; middle < to; middle++) {
                joinCells(grammar, run(from, middle), run(middle, to), run(from, to));
            }
        }

        /** A least way passes no KIND with a MARK twice, so as many turns as there are of these settle the cell. */
        private void joinWithPutIn(Grammar grammar, int from, int to) {
            int cell = run(from, to);
            boolean moved = true;
            for (int turn = 0; turn <= STATES && moved; turn++) {
                boolean ahead = joinCells(grammar, run(from, from), cell, cell);
                boolean behind = joinCells(grammar, cell, run(to, to), cell);
                moved = ahead || behind;
            }
        }

        /** Lowers a cell by all RULES over two others: whether a sum got lower. */
        private boolean joinCells(Grammar grammar, int left, int right, int cell) {
            boolean moved = false;
            for (int r = 0; r < grammar.rules; r++) {
                int first = left + grammar.firsts[r] * MARKS;
                int second = right + grammar.seconds[r] * MARKS;
                if (joinByRule(grammar, r, first, second, cell + grammar.wholes[r] * MARKS)) {
                    moved = true;
                }
            }
            return moved;
        }

        private boolean joinByRule(Grammar grammar, int rule, int first, int second, int whole) {
            int cheapFirst = cheapestAt(first);
            int cheapSecond = cheapestAt(second);
            if (cheapFirst + cheapSecond >= TOO_DEAR) {
                return false;
            }
            boolean moved = false;
            for (int m = 0; m < MARKS; m++) {
                int sum;
                if (grammar.agree[rule]) {
                    sum = sums[first + m] + sums[second + m];
                } else if (grammar.markOfSecond[rule]) {
                    sum = cheapFirst + sums[second + m];
                } else {
                    sum = sums[first + m] + cheapSecond;
                }
                if (lower(whole + m, sum)) {
                    moved = true;
                }
            }
            return moved;
        }

        private int cheapestAt(int at) {
            return Math.min(Math.min(sums[at], sums[at + 1]), Math.min(sums[at + 2], sums[at + 3]));
        }
    }

    /** The RULES whose agreement bars a row that is not READ. */
    private static final class BarFinder {
        private final int[] sets = new int[LANES];
        private int size = 0;

        /** The least bits of the fewest RULES that need not agree, or NONE. */
        int fewest(Grammar grammar, Row row, Lanes lanes) {
            int agreeing = agreeingRules(grammar);
            for (int bits = 1; bits <= MOST_BARS; bits++) {
                int found = fewestOf(bits, agreeing, grammar, row, lanes);
                if (found != NONE) {
                    return found;
                }
            }
            return NONE;
        }

        /** The bits of all RULES each of which alone, if it need not agree, lets the row be READ. */
        int singleRules(Grammar grammar, Row row, Lanes lanes) {
            size = 0;
            for (int r = 0; r < grammar.rules; r++) {
                addSet(1 << r);
            }
            return (int) freeingLanes(grammar, row, lanes);
        }

        private static int agreeingRules(Grammar grammar) {
            int bits = 0;
            for (int r = 0; r < grammar.rules; r++) {
                if (grammar.agree[r]) {
                    bits |= 1 << r;
                }
            }
            return bits;
        }

        private int fewestOf(int bits, int agreeing, Grammar grammar, Row row, Lanes lanes) {
            size = 0;
            int set = (1 << bits) - 1;
            for (int tried = 0; tried < MOST_SETS && set <= agreeing; tried++) {
                if ((set & agreeing) == set) {
                    addSet(set);
                }
                set = nextSet(set);
                if (size == LANES || set > agreeing) {
                    long freeing = freeingLanes(grammar, row, lanes);
                    int lane = Long.bitCount((freeing & -freeing) - 1);
                    if (lane < size) {
                        return sets[lane];
                    }
                    size = 0;
                }
            }
            return NONE;
        }

        private void addSet(int set) {
            if (size < LANES) {
                sets[size] = set;
                size++;
            }
        }

        /** The next greater number with as many bits: the lowest run of bits gives its top one up. */
        private static int nextSet(int set) {
            int lowest = set & -set;
            int carried = set + lowest;
            return carried | ((set ^ carried) >>> (2 + Integer.bitCount(lowest - 1)));
        }

        /** The lanes, one for each set, in which the row is READ without that set. */
        private long freeingLanes(Grammar grammar, Row row, Lanes lanes) {
            lanes.restart();
            for (int lane = 0; lane < size; lane++) {
                lanes.putRow(grammar, row, 1L << lane);
                for (int r = 0; r < grammar.rules; r++) {
                    if (hasBit(sets[lane], r)) {
                        lanes.freeRule(r, 1L << lane);
                    }
                }
            }
            lanes.joinAll(grammar, row.size);
            return lanes.readLanes(row.size);
        }
    }

    /** The MENDS of one row, in their order, and their HEAPS. */
    private static final class Mends {
        private final Row[] rows = new Row[MOST_MENDS];
        private final int[] costs = new int[MOST_MENDS];
        private int size = 0;
        /** Rows of one length that wait to be read together. */
        private final Row[] tries = new Row[LANES];
        private final int[] tryCosts = new int[LANES];
        private int triesSize = 0;
        /** The place of the first MEND of each HEAP. */
        private final int[] heapFirsts = new int[MOST_MENDS];
        private int heapsSize = 0;
        private final int[] tally = new int[FAMILIES + 1];

        Mends() {
            for (int i = 0; i < MOST_MENDS; i++) {
                rows[i] = new Row();
            }
            for (int lane = 0; lane < LANES; lane++) {
                tries[lane] = new Row();
            }
        }

        void find(Grammar grammar, Row row, int quoted, Lanes lanes) {
            size = 0;
            triesSize = 0;
            for (int p = 0; p < row.size; p++) {
                if (!hasBit(quoted, p)) {
                    addSwaps(grammar, row, p);
                }
                readTries(grammar, lanes, LANES - MOST_WORDS);
            }
            readTries(grammar, lanes, 0);
            for (int p = 0; p < row.size && row.size > 1; p++) {
                if (!hasBit(quoted, p)) {
                    nextTry(grammar.told[OUT]).copyWithout(row, p);
                }
            }
            readTries(grammar, lanes, 0);
            for (int gap = 0; gap <= row.size && row.size < PLACES; gap++) {
                for (int w = 0; w < grammar.words; w++) {
                    nextTry(grammar.told[IN]).copyWith(row, gap, w);
                }
                readTries(grammar, lanes, LANES - MOST_WORDS);
            }
            readTries(grammar, lanes, 0);
        }

        int placeOf(Row row) {
            for (int i = 0; i < size; i++) {
                if (rows[i].orderTo(row) == 0) {
                    return i;
                }
            }
            return NONE;
        }

        private void addSwaps(Grammar grammar, Row row, int place) {
            int own = row.words[place];
            for (int w = 0; w < grammar.words; w++) {
                int cost = grammar.swapPrice(own, w, grammar.told);
                if (w != own && cost < TOO_DEAR) {
                    nextTry(cost).copySwapped(row, place, w);
                }
            }
        }

        private Row nextTry(int cost) {
            int lane = Math.min(triesSize, LANES - 1);
            tryCosts[lane] = cost;
            triesSize = lane + 1;
            return tries[lane];
        }

        /** Reads the tries, if there are more than some; those that are READ are MENDS. */
        private void readTries(Grammar grammar, Lanes lanes, int some) {
            if (triesSize <= some) {
                return;
            }
            lanes.restart();
            for (int lane = 0; lane < triesSize; lane++) {
                lanes.putRow(grammar, tries[lane], 1L << lane);
            }
            lanes.joinAll(grammar, tries[0].size);
            long read = lanes.readLanes(tries[0].size);
            for (int lane = 0; lane < triesSize; lane++) {
                if ((read >>> lane & 1) == 1) {
                    insert(tries[lane], tryCosts[lane]);
                }
            }
            triesSize = 0;
        }

        /** A row that several changes make costs the same by each (one place and its least PRICE, or OUT, or IN). */
        private void insert(Row row, int cost) {
            int at = 0;
            while (at < size && orderAt(at, row, cost) < 0) {
                at++;
            }
            if (at == MOST_MENDS || at < size && orderAt(at, row, cost) == 0) {
                return;
            }
            if (size < MOST_MENDS) {
                size++;
            }
            Row spare = rows[size - 1];
            for (int i = size - 1; i > at; i--) {
                rows[i] = rows[i - 1];
                costs[i] = costs[i - 1];
            }
            rows[at] = spare;
            spare.copyOf(row);
            costs[at] = cost;
        }

        private int orderAt(int i, Row row, int cost) {
            return costs[i] != cost ? costs[i] - cost : rows[i].orderTo(row);
        }

        void gatherHeaps(Grammar grammar) {
            heapsSize = 0;
            for (int i = 0; i < size; i++) {
                if (!isHeaped(grammar, rows[i])) {
                    heapFirsts[heapsSize] = i;
                    heapsSize++;
                }
            }
        }

        private boolean isHeaped(Grammar grammar, Row row) {
            for (int h = 0; h < heapsSize; h++) {
                if (row.hasFamiliesOf(grammar, rows[heapFirsts[h]])) {
                    return true;
                }
            }
            return false;
        }

        boolean firstStandsOut(int d) {
            return heapsSize == 1 || heapsSize > 1 && costs[heapFirsts[1]] - costs[heapFirsts[0]] >= d;
        }

        int askedPlace(Grammar grammar) {
            int asked = 0;
            for (int p = 1; p < PLACES; p++) {
                if (greatestAt(grammar, p) < greatestAt(grammar, asked)) {
                    asked = p;
                }
            }
            return asked;
        }

        /** The greatest number of HEAPS that have one FAMILY at a place. */
        private int greatestAt(Grammar grammar, int place) {
            Arrays.fill(tally, 0);
            int greatest = 0;
            for (int h = 0; h < heapsSize; h++) {
                int family = rows[heapFirsts[h]].familyAt(grammar, place);
                tally[family]++;
                greatest = Math.max(greatest, tally[family]);
            }
            return greatest;
        }
    }

    /** What is asked of a KEPT SENTENCE. */
    private static final class KeptOne {
        private boolean right = false;
        private boolean read = false;
        /** Where people's row is among the MENDS, or NONE. */
        private int place = NONE;
        /** The bits of the RULES that alone let it be READ. */
        private int freeing = 0;

        boolean isWronged() {
            return right && !read;
        }

        boolean isChangedUnread() {
            return !right && !read;
        }
    }

    /** THE HAND: its errors as they came. */
    private static final class Hand {
        private final int[] errors = new int[MOST_ERRORS];
        private int size = 0;

        void append(int change) {
            if (size < MOST_ERRORS) {
                errors[size] = change;
                size++;
            }
        }

        int fittedPrice(int change) {
            int times = 0;
            for (int i = 0; i < size; i++) {
                if (errors[i] == change) {
                    times++;
                }
            }
            return size == 0 ? 10 : 10 - 9 * times / size;
        }

        boolean cameSince(int change, int from) {
            for (int i = Math.max(0, from); i < size; i++) {
                if (errors[i] == change) {
                    return true;
                }
            }
            return false;
        }
    }
}
