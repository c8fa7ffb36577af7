import java.util.ArrayList;
import java.util.List;
import java.util.Random;

/** Long runs of chance calls (from fixed seeds), each answer against the Model's. */
public final class ModelTest {
    private static final Check CHECK = new Check("ModelTest");

    public static void main(String[] args) {
        int runs = args.length > 1 ? Integer.parseInt(args[1]) : 500;
        long first = args.length > 2 ? Long.parseLong(args[2]) : 0;
        for (long seed = first; seed < first + runs && CHECK.allRight(); seed++) {
            new Run(seed).go();
        }
        CHECK.end();
    }

    private static final class Run {
        private final Random random;
        private final String name;
        private final OneWordWrong x = new OneWordWrong();
        private final Model m = new Model();
        private int calls = 0;
        private String lastText = "";
        private int kinds;
        private int marks;
        private int agreeing;

        Run(long seed) {
            random = new Random(seed);
            name = "seed " + seed + " call ";
        }

        private void due(String call, long got, long want) {
            calls++;
            CHECK.due(name + calls + " " + call, got, want);
        }

        private int below(int n) {
            return random.nextInt(n);
        }

        /** Mostly a number that is told, now and then one beside. */
        private int from(int low, int high) {
            if (below(40) == 0) {
                int[] odd = {low - 1, high + 1, Integer.MIN_VALUE, Integer.MAX_VALUE, -1};
                return odd[below(odd.length)];
            }
            return low + below(high - low + 1);
        }

        private String item() {
            int odd = below(300) == 0 ? 1 : 0;
            switch (below(20)) {
                case 0: return "p" + (below(5) + 5 * odd) + "," + (below(3) == 0 ? below(100) : below(9)) + ";";
                case 1: case 2: case 3: case 4: case 5: case 6: case 7: case 8: case 9:
                    return "w" + below(kinds) + "," + (below(marks) + 4 * odd) + "," + below(5) + "," + below(8) + ";";
                default:
                    return "r" + below(kinds) + "," + below(kinds) + "," + below(kinds) + "," + (below(agreeing) > 0 ? 1 : 0) + ","
                            + below(2) + (odd == 1 && below(2) == 0 ? "" : ";");
            }
        }

        private void writeAndLay() {
            kinds = 1 + below(below(4) == 0 ? 10 : 4);
            marks = 1 + below(4);
            agreeing = 1 + below(6);
            StringBuilder text = new StringBuilder();
            int items = below(6) == 0 ? below(45) : 8 + below(20);
            for (int k = 0; k < items; k++) {
                text.append(item());
            }
            if (below(4) == 0 && !lastText.isEmpty()) {
                // what stood behind it before must not count
                text = new StringBuilder(lastText.substring(0, below(lastText.length())));
            }
            lastText = text.toString();
            for (int at = 0; at < text.length(); ) {
                int n = Math.min(text.length() - at, 1 + below(8));
                long v = random.nextLong();
                for (int k = at; k < at + n; k++) {
                    v = v << 8 | text.charAt(k);
                }
                due("write " + n + " " + v, x.write(n, v), m.write(n, v));
                at += n;
            }
            due("fault", x.fault(), m.fault());
            due("lay", x.lay(), m.lay());
            if (m.fault() != Model.NONE) {
                due("wipe", x.wipe(), m.wipe());
            }
        }

        /** 512 calls and no more: a TEXT takes some hundred, what else goes on in one turn some thirty at most. */
        void go() {
            writeAndLay();
            while (calls < 480) {
                if (calls < 250 && below(40) == 0) {
                    due("wipe", x.wipe(), m.wipe());
                    writeAndLay();
                } else if (below(4) == 0) {
                    sentenceAnew();
                } else if (below(25) == 0) {
                    keepMended();
                } else if (below(25) == 0) {
                    keepWronged();
                } else {
                    call();
                }
            }
            while (calls < 512) {
                call();
            }
        }

        private void sentenceAnew() {
            int s = from(0, 7);
            due("clear " + s, x.clear(s), m.clear(s));
            List<Integer> row = new ArrayList<>();
            if (below(4) > 0) {
                expand(row, 0, 2 + below(5));
            }
            int n = row.isEmpty() ? 1 + below(9) : below(3) == 0 ? row.size() + 1 : row.size();
            for (int k = 0; k < Math.min(n, 10); k++) {
                int w = k < row.size() && below(12) > 0 ? row.get(k) : from(0, Math.max(0, m.count(0) - 1));
                due("word " + s + " " + w, x.word(s, w), m.word(s, w));
            }
        }

        /** Puts WORDS behind a row that would make a KIND, were it not for what must agree. */
        private void expand(List<Integer> row, int kind, int depth) {
            List<int[]> fitting = new ArrayList<>();
            for (int[] rule : m.rules) {
                if (rule[0] == kind && depth > 0) fitting.add(rule);
            }
            List<Integer> leaves = new ArrayList<>();
            for (int w = 0; w < m.words.size(); w++) {
                if (m.words.get(w)[0] == kind) leaves.add(w);
            }
            if (!fitting.isEmpty() && (leaves.isEmpty() || below(3) > 0)) {
                int[] rule = fitting.get(below(fitting.size()));
                expand(row, rule[1], depth - 1);
                expand(row, rule[2], depth - 1);
            } else if (!leaves.isEmpty()) {
                row.add(leaves.get(below(leaves.size())));
            }
        }

        /** People's row is among the MENDS, mostly the first. */
        private void keepMended() {
            int s = below(8);
            int t = (s + 1 + below(7)) % 8;
            int i = below(2) * below(5);
            int n = m.mend(s, i, 1);
            if (n < 1) {
                return;
            }
            due("clear " + t, x.clear(t), m.clear(t));
            for (int k = 0; k < n; k++) {
                int w = x.mend(s, i, k + 2);
                due("mend " + s + " " + i + " " + (k + 2), w, m.mend(s, i, k + 2));
                due("word " + t + " " + w, x.word(t, w), m.word(t, w));
            }
            int number = x.keep(s, t);
            due("keep " + s + " " + t, number, m.keep(s, t));
            due("theirs " + number, x.theirs(number), m.theirs(number));
        }

        /** A SENTENCE that agreement may bar is KEPT as right. */
        private void keepWronged() {
            int s = below(8);
            if (m.trees(s, -1) != 0) {
                return;
            }
            due("keep " + s + " " + s, x.keep(s, s), m.keep(s, s));
            due("bars " + s, x.bars(s), m.bars(s));
            for (int r = 0; r < m.count(1); r++) {
                due("byRule " + r, x.byRule(r), m.byRule(r));
            }
        }

        private void call() {
            int s = from(0, 7);
            int i = below(3) == 0 ? from(-1, 45) : from(-1, 4);
            int a = from(0, 9);
            int b = from(0, 7);
            boolean fitted = random.nextBoolean();
            switch (below(22)) {
                case 0: due("price " + a, x.price(a, fitted), m.price(a, fitted)); break;
                case 1: due("quote " + s, x.quote(s, a * 28 + b), m.quote(s, a * 28 + b)); break;
                case 2: case 3: { int k = from(-1, 3); due("trees " + s + " " + k, x.trees(s, k), m.trees(s, k)); break; }
                case 4: case 5: { int n = from(1, 8), k = from(0, kinds - 1), q = from(0, marks - 1);
                    due("part " + s + " " + b + " " + n + " " + k + " " + q, x.part(s, b, n, k, q), m.part(s, b, n, k, q)); break; }
                case 6: case 7: case 8: due("least " + s + " " + fitted, x.least(s, fitted), m.least(s, fitted)); break;
                case 9: case 10: case 11: due("mend " + s + " " + i + " " + a, x.mend(s, i, a), m.mend(s, i, a)); break;
                case 12: case 13: { int d = from(0, below(2) == 0 ? 99 : 4), q = from(0, 2);
                    due("heaps " + s + " " + d + " " + q, x.heaps(s, d, q), m.heaps(s, d, q)); break; }
                case 14: due("bars " + s, x.bars(s), m.bars(s)); break;
                case 15: due("keep " + s + " " + b, x.keep(s, b), m.keep(s, b)); break;
                case 16: { int q = from(0, 2); due("kept " + q, x.kept(q), m.kept(q)); break; }
                case 17: { int r = from(0, 8); due("byRule " + r, x.byRule(r), m.byRule(r)); break; }
                case 18: { int k = from(0, 11); due("theirs " + k, x.theirs(k), m.theirs(k)); break; }
                case 19: { int c = from(0, 4); due("err " + c, x.err(c), m.err(c)); break; }
                case 20: { int c = from(0, 4), n = from(1, below(2) == 0 ? 60 : 5); due("gone " + c + " " + n, x.gone(c, n), m.gone(c, n)); break; }
                default: { int q = from(0, 5); due("count " + q, x.count(q), m.count(q)); }
            }
        }
    }
}
