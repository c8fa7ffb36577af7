import java.util.ArrayList;
import java.util.List;
import java.util.Random;

/**
 * Promise 12 by its words alone: all rows up to a length that are READ, and for each the least sum of changes
 * that make it of the SENTENCE, WORD by WORD. Longer rows cost as much as the WORDS that they need more.
 */
public final class LeastTest {
    private static final int LONGEST = 6;
    private static final Check CHECK = new Check("LeastTest");

    public static void main(String[] args) {
        int runs = args.length > 1 ? Integer.parseInt(args[1]) : 150;
        for (int seed = 0; seed < runs && CHECK.allRight(); seed++) {
            new Run(seed).go();
        }
        CHECK.end();
    }

    private static final class Run {
        private final Random random;
        private final int seed;
        private final Model m = new Model();
        private final List<List<Integer>> readRows = new ArrayList<>();

        Run(int seed) {
            this.seed = seed;
            random = new Random(seed);
        }

        void go() {
            String text = grammar();
            OneWordWrong x = Check.laid(text);
            m.text.append(text);
            m.lay();
            gatherRead(new ArrayList<>());
            for (int k = 0; k < 12; k++) {
                ask(x, text);
            }
        }

        private String grammar() {
            StringBuilder text = new StringBuilder();
            int kinds = 2 + random.nextInt(3);
            for (int w = 2 + random.nextInt(3); w > 0; w--) {
                text.append("w" + random.nextInt(kinds) + "," + random.nextInt(2) + "," + random.nextInt(3) + ","
                        + random.nextInt(3) + ";");
            }
            for (int r = 1 + random.nextInt(6); r > 0; r--) {
                text.append("r" + random.nextInt(kinds) + "," + random.nextInt(kinds) + "," + random.nextInt(kinds) + ","
                        + random.nextInt(2) + "," + random.nextInt(2) + ";");
            }
            for (int c = 0; c < 5; c++) {
                text.append("p" + c + "," + (random.nextInt(6) == 0 ? random.nextInt(60) : random.nextInt(9)) + ";");
            }
            return text.toString();
        }

        private void gatherRead(List<Integer> row) {
            if (!row.isEmpty() && m.read(row)) readRows.add(new ArrayList<>(row));
            for (int w = 0; w < m.words.size() && row.size() < LONGEST; w++) {
                row.add(w);
                gatherRead(row);
                row.remove(row.size() - 1);
            }
        }

        private void ask(OneWordWrong x, String text) {
            int[] row = new int[1 + random.nextInt(4)];
            for (int k = 0; k < row.length; k++) row[k] = random.nextInt(m.words.size());
            int quoted = random.nextInt(3) == 0 ? random.nextInt(16) : 0;
            Check.say(x, 0, row);
            x.quote(0, quoted);
            boolean fitted = random.nextInt(3) == 0;
            if (fitted) {
                int c = random.nextInt(5);
                x.err(c);
                m.err(c);
            }
            int[] prices = new int[5];
            for (int c = 0; c < 5; c++) prices[c] = m.price(c, fitted);
            int least = 100;
            for (List<Integer> made : readRows) least = Math.min(least, changesTo(row, quoted, made, prices));
            int longer = Math.min(100, prices[4] * (LONGEST + 1 - row.length));
            int got = x.least(0, fitted);
            int sum = got == -4 ? 100 : got;
            String call = "seed " + seed + " least of " + java.util.Arrays.toString(row) + " quoted " + quoted + " by " + text;
            if (least <= longer) {
                CHECK.due(call, sum, least);
            } else {
                CHECK.due(call + " within", sum >= longer && sum <= least ? 1 : 0, 1);
            }
        }

        private int changesTo(int[] row, int quoted, List<Integer> made, int[] prices) {
            int[][] sums = new int[row.length + 1][made.size() + 1];
            for (int i = 0; i <= row.length; i++) {
                for (int j = 0; j <= made.size(); j++) {
                    int least = i == 0 && j == 0 ? 0 : 1000;
                    boolean free = i > 0 && (quoted >> (i - 1) & 1) == 0;
                    if (free) least = Math.min(least, sums[i - 1][j] + prices[3]);
                    if (j > 0) least = Math.min(least, sums[i][j - 1] + prices[4]);
                    if (i > 0 && j > 0 && row[i - 1] == made.get(j - 1)) least = Math.min(least, sums[i - 1][j - 1]);
                    if (free && j > 0) least = Math.min(least, sums[i - 1][j - 1] + m.swap(row[i - 1], made.get(j - 1), prices));
                    sums[i][j] = least;
                }
            }
            return sums[row.length][made.size()];
        }
    }
}
