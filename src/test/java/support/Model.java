import java.util.ArrayList;
import java.util.Comparator;
import java.util.HashMap;
import java.util.HashSet;
import java.util.LinkedHashMap;
import java.util.List;
import java.util.Map;
import java.util.PriorityQueue;
import java.util.Set;
import java.util.TreeMap;
import java.util.regex.Matcher;
import java.util.regex.Pattern;

/**
 * The document once more, by other ways than the class goes: texts by patterns, TREES by taking runs apart,
 * LEAST by an agenda (cheapest first), MENDS and BARS one try after the other, KEPT ones anew at each call.
 */
final class Model {
    static final int BAD = -1, NO = -2, FULL = -3, NONE = -4;
    private static final Pattern ITEM = Pattern.compile("([wrp])(\\d{1,2}(?:,\\d{1,2})*);");

    final StringBuilder text = new StringBuilder();
    List<int[]> words = new ArrayList<>();
    List<int[]> rules = new ArrayList<>();
    private int[] told = {3, 4, 6, 5, 5};
    private final List<List<Integer>> sentences = new ArrayList<>();
    private final int[] quoted = new int[8];
    private final List<List<List<Integer>>> keptOnes = new ArrayList<>();
    private final List<Integer> errors = new ArrayList<>();

    Model() {
        for (int s = 0; s < 8; s++) {
            sentences.add(new ArrayList<>());
        }
    }

    int write(int n, long v) {
        if (n < 1 || n > 8) return BAD;
        if (text.length() + n > 400) return FULL;
        StringBuilder back = new StringBuilder();
        for (int k = 0; k < n; k++, v >>= 8) back.append((char) (v & 0xff));
        text.append(back.reverse());
        return text.length();
    }

    int wipe() {
        int was = text.length();
        text.setLength(0);
        return was;
    }

    private int parse(List<int[]> intoWords, List<int[]> intoRules, int[] intoTold) {
        Matcher m = ITEM.matcher(text);
        int at = 0;
        while (at < text.length()) {
            if (!m.region(at, text.length()).lookingAt()) return at;
            String[] parts = m.group(2).split(",");
            int[] v = new int[parts.length];
            for (int k = 0; k < v.length; k++) v[k] = Integer.parseInt(parts[k]);
            boolean good;
            switch (m.group(1)) {
                case "w":
                    good = v.length == 4 && v[0] <= 9 && v[1] <= 3 && v[2] <= 15 && v[3] <= 15 && intoWords.size() < 16;
                    if (good) intoWords.add(v);
                    break;
                case "r":
                    good = v.length == 5 && v[0] <= 9 && v[1] <= 9 && v[2] <= 9 && v[3] <= 1 && v[4] <= 1
                            && intoRules.size() < 24;
                    if (good) intoRules.add(v);
                    break;
                default:
                    good = v.length == 2 && v[0] <= 4;
                    if (good) intoTold[v[0]] = v[1];
            }
            if (!good) return at;
            at = m.end();
        }
        return NONE;
    }

    int fault() {
        return parse(new ArrayList<>(), new ArrayList<>(), new int[5]);
    }

    int lay() {
        List<int[]> w = new ArrayList<>();
        List<int[]> r = new ArrayList<>();
        int[] p = {3, 4, 6, 5, 5};
        if (parse(w, r, p) != NONE) return NO;
        words = w;
        rules = r;
        told = p;
        for (int s = 0; s < 8; s++) {
            sentences.get(s).clear();
            quoted[s] = 0;
        }
        keptOnes.clear();
        errors.clear();
        return words.size();
    }

    int price(int change, boolean fitted) {
        if (change < 0 || change > 4) return BAD;
        if (!fitted || errors.isEmpty()) return told[change];
        int came = 0;
        for (int e : errors) if (e == change) came++;
        return 10 - (int) Math.floor(9.0 * came / errors.size());
    }

    int word(int s, int word) {
        if (badSentence(s) || word < 0 || word >= words.size()) return BAD;
        if (sentences.get(s).size() == 8) return FULL;
        sentences.get(s).add(word);
        return sentences.get(s).size();
    }

    int clear(int s) {
        if (badSentence(s)) return BAD;
        int was = sentences.get(s).size();
        sentences.get(s).clear();
        quoted[s] = 0;
        return was;
    }

    int quote(int s, int places) {
        if (badSentence(s) || places < 0 || places > 255) return BAD;
        int was = quoted[s];
        quoted[s] = places;
        return was;
    }

    private static boolean badSentence(int s) {
        return s < 0 || s > 7;
    }

    /** The TREES over a row by KIND * 4 + MARK; the RULES in a set need not agree. */
    private Map<Integer, Long> treesOver(List<Integer> row, int free, Map<List<Integer>, Map<Integer, Long>> known) {
        Map<Integer, Long> before = known.get(row);
        if (before != null) return before;
        Map<Integer, Long> all = new HashMap<>();
        if (row.size() == 1) {
            int[] w = words.get(row.get(0));
            all.put(w[0] * 4 + w[1], 1L);
        }
        for (int k = 1; k < row.size(); k++) {
            Map<Integer, Long> left = treesOver(row.subList(0, k), free, known);
            Map<Integer, Long> right = treesOver(row.subList(k, row.size()), free, known);
            for (int r = 0; r < rules.size(); r++) {
                int[] rule = rules.get(r);
                for (Map.Entry<Integer, Long> y : left.entrySet()) {
                    for (Map.Entry<Integer, Long> z : right.entrySet()) {
                        int ym = y.getKey() % 4;
                        int zm = z.getKey() % 4;
                        if (y.getKey() / 4 != rule[1] || z.getKey() / 4 != rule[2]) continue;
                        if (rule[3] == 1 && ym != zm && (free >> r & 1) == 0) continue;
                        all.merge(rule[0] * 4 + (rule[4] == 0 ? ym : zm), y.getValue() * z.getValue(), Long::sum);
                    }
                }
            }
        }
        known.put(row, all);
        return all;
    }

    private long wholes(List<Integer> row, int free, int mark) {
        Map<Integer, Long> all = treesOver(row, free, new HashMap<>());
        long sum = 0;
        for (int m = 0; m < 4; m++) if (mark == -1 || mark == m) sum += all.getOrDefault(m, 0L);
        return sum;
    }

    boolean read(List<Integer> row) {
        return wholes(row, 0, -1) > 0;
    }

    long trees(int s, int mark) {
        if (badSentence(s) || mark < -1 || mark > 3) return BAD;
        if (sentences.get(s).isEmpty()) return NO;
        return wholes(sentences.get(s), 0, mark);
    }

    int part(int s, int from, int n, int kind, int mark) {
        if (badSentence(s) || from < 0 || n < 1 || kind < 0 || kind > 9 || mark < 0 || mark > 3) return BAD;
        List<Integer> row = sentences.get(s);
        if ((long) from + n > row.size()) return BAD;
        return treesOver(row.subList(from, from + n), 0, new HashMap<>()).containsKey(kind * 4 + mark) ? 1 : 0;
    }

    int swap(int w, int v, int[] prices) {
        int least = 1000;
        int[] a = words.get(w);
        int[] b = words.get(v);
        if (a[2] == b[2]) least = Math.min(least, prices[0]);
        if (a[3] == b[3]) least = Math.min(least, prices[1]);
        if (a[0] == b[0]) least = Math.min(least, prices[2]);
        return least;
    }

    int least(int s, boolean fitted) {
        if (badSentence(s)) return BAD;
        if (sentences.get(s).isEmpty()) return NO;
        int[] prices = new int[5];
        for (int c = 0; c < 5; c++) prices[c] = price(c, fitted);
        return leastOf(sentences.get(s), quoted[s], prices);
    }

    /** Takes the cheapest of what can be made from a run (from, to, KIND, MARK) off the agenda, one after the other. */
    private int leastOf(List<Integer> row, int quotedPlaces, int[] prices) {
        int n = row.size();
        PriorityQueue<int[]> agenda = new PriorityQueue<>(Comparator.comparingInt(a -> a[0]));
        for (int at = 0; at <= n; at++) {
            for (int w = 0; w < words.size(); w++) {
                agenda.add(new int[] {prices[4], at, at, words.get(w)[0], words.get(w)[1]});
                if (at == n) continue;
                boolean own = w == row.get(at);
                if (!own && (quotedPlaces >> at & 1) == 1) continue;
                agenda.add(new int[] {own ? 0 : swap(row.get(at), w, prices), at, at + 1,
                    words.get(w)[0], words.get(w)[1]});
            }
        }
        Set<List<Integer>> settled = new HashSet<>();
        List<int[]> items = new ArrayList<>();
        while (!agenda.isEmpty()) {
            int[] it = agenda.poll();
            if (it[0] > 99) return NONE;
            if (!settled.add(List.of(it[1], it[2], it[3], it[4]))) continue;
            if (it[1] == 0 && it[2] == n && it[3] == 0) return it[0];
            items.add(it);
            if (it[1] > 0 && (quotedPlaces >> (it[1] - 1) & 1) == 0) {
                agenda.add(new int[] {it[0] + prices[3], it[1] - 1, it[2], it[3], it[4]});
            }
            if (it[2] < n && (quotedPlaces >> it[2] & 1) == 0) {
                agenda.add(new int[] {it[0] + prices[3], it[1], it[2] + 1, it[3], it[4]});
            }
            for (int[] other : items) {
                joinTo(agenda, it, other);
                if (other != it) joinTo(agenda, other, it);
            }
        }
        return NONE;
    }

    private void joinTo(PriorityQueue<int[]> agenda, int[] y, int[] z) {
        if (y[2] != z[1]) return;
        for (int[] rule : rules) {
            if (rule[1] == y[3] && rule[2] == z[3] && (rule[3] == 0 || y[4] == z[4])) {
                agenda.add(new int[] {y[0] + z[0], y[1], z[2], rule[0], rule[4] == 0 ? y[4] : z[4]});
            }
        }
    }

    private static int order(List<Integer> a, List<Integer> b) {
        if (a.size() != b.size()) return Integer.compare(a.size(), b.size());
        for (int k = 0; k < a.size(); k++) {
            if (!a.get(k).equals(b.get(k))) return Integer.compare(a.get(k), b.get(k));
        }
        return 0;
    }

    private void offer(Map<List<Integer>, Integer> made, List<Integer> row, int price) {
        if (row.size() >= 1 && row.size() <= 8 && price < 1000 && read(row)) made.merge(row, price, Math::min);
    }

    /** The MENDS, each with its PRICE, in their order. */
    private List<Map.Entry<List<Integer>, Integer>> mends(List<Integer> row, int quotedPlaces) {
        Map<List<Integer>, Integer> made = new TreeMap<>(Model::order);
        for (int p = 0; p <= row.size(); p++) {
            for (int w = 0; w < words.size(); w++) {
                List<Integer> longer = new ArrayList<>(row);
                longer.add(p, w);
                offer(made, longer, told[4]);
                if (p < row.size() && (quotedPlaces >> p & 1) == 0 && w != row.get(p)) {
                    List<Integer> other = new ArrayList<>(row);
                    other.set(p, w);
                    offer(made, other, swap(row.get(p), w, told));
                }
            }
            if (p < row.size() && (quotedPlaces >> p & 1) == 0) {
                List<Integer> shorter = new ArrayList<>(row);
                shorter.remove(p);
                offer(made, shorter, told[3]);
            }
        }
        List<Map.Entry<List<Integer>, Integer>> all = new ArrayList<>(made.entrySet());
        all.sort(Map.Entry.<List<Integer>, Integer>comparingByValue().thenComparing(Map.Entry::getKey, Model::order));
        return all.size() > 40 ? all.subList(0, 40) : all;
    }

    int mend(int s, int i, int what) {
        if (badSentence(s) || i < -1 || what < 0 || what > 9) return BAD;
        List<Integer> row = sentences.get(s);
        if (row.isEmpty() || read(row)) return NO;
        List<Map.Entry<List<Integer>, Integer>> all = mends(row, quoted[s]);
        if (i == -1) return all.size();
        if (i >= all.size()) return NONE;
        if (what == 0) return all.get(i).getValue();
        List<Integer> mended = all.get(i).getKey();
        if (what == 1) return mended.size();
        return what - 2 < mended.size() ? mended.get(what - 2) : NONE;
    }

    int heaps(int s, int d, int what) {
        if (badSentence(s) || d < 0 || d > 99 || what < 0 || what > 2) return BAD;
        List<Integer> row = sentences.get(s);
        if (row.isEmpty() || read(row)) return NO;
        Map<List<Integer>, Integer> firstPrices = new LinkedHashMap<>();
        for (Map.Entry<List<Integer>, Integer> mended : mends(row, quoted[s])) {
            List<Integer> families = new ArrayList<>();
            for (int w : mended.getKey()) families.add(words.get(w)[2]);
            firstPrices.putIfAbsent(families, mended.getValue());
        }
        if (what == 0) return firstPrices.size();
        if (firstPrices.isEmpty() || what == 2 && firstPrices.size() < 2) return NONE;
        List<Integer> prices = new ArrayList<>(firstPrices.values());
        if (what == 1) return prices.size() == 1 || prices.get(1) >= prices.get(0) + d ? 1 : 0;
        int asked = NONE;
        int best = 99;
        for (int p = 7; p >= 0; p--) {
            Map<Integer, Integer> tally = new HashMap<>();
            for (List<Integer> f : firstPrices.keySet()) tally.merge(p < f.size() ? f.get(p) : -1, 1, Integer::sum);
            int greatest = 0;
            for (int t : tally.values()) greatest = Math.max(greatest, t);
            if (greatest <= best) {
                best = greatest;
                asked = p;
            }
        }
        return asked;
    }

    int bars(int s) {
        if (badSentence(s)) return BAD;
        List<Integer> row = sentences.get(s);
        if (row.isEmpty()) return NO;
        if (read(row)) return 0;
        int n = rules.size();
        int best = NONE;
        for (int a = 0; a < n; a++) {
            for (int b = a; b < n; b++) {
                for (int c = b; c < n; c++) {
                    int set = 1 << a | 1 << b | 1 << c;
                    if (rules.get(a)[3] + rules.get(b)[3] + rules.get(c)[3] < 3) continue;
                    int bits = Integer.bitCount(set);
                    if (best != NONE && (Integer.bitCount(best) < bits || Integer.bitCount(best) == bits && best <= set)) {
                        continue;
                    }
                    if (wholes(row, set, -1) > 0) best = set;
                }
            }
        }
        return best;
    }

    int keep(int s, int t) {
        if (badSentence(s) || badSentence(t)) return BAD;
        if (sentences.get(s).isEmpty() || sentences.get(t).isEmpty()) return NO;
        if (keptOnes.size() == 12) return FULL;
        keptOnes.add(List.of(List.copyOf(sentences.get(s)), List.copyOf(sentences.get(t))));
        return keptOnes.size() - 1;
    }

    int kept(int what) {
        if (what < 0 || what > 2) return BAD;
        int sum = 0;
        for (List<List<Integer>> one : keptOnes) {
            if (read(one.get(0))) continue;
            boolean right = one.get(0).equals(one.get(1));
            if (what == 2) {
                if (right) sum++;
            } else if (!right) {
                List<Map.Entry<List<Integer>, Integer>> all = mends(one.get(0), 0);
                if (what == 1 || !all.isEmpty() && all.get(0).getKey().equals(one.get(1))) sum++;
            }
        }
        return sum;
    }

    int byRule(int rule) {
        if (rule < 0 || rule >= rules.size()) return BAD;
        int sum = 0;
        for (List<List<Integer>> one : keptOnes) {
            boolean wronged = one.get(0).equals(one.get(1)) && !read(one.get(0));
            if (wronged && wholes(one.get(0), 1 << rule, -1) > 0) sum++;
        }
        return sum;
    }

    int theirs(int k) {
        if (k < 0 || k >= keptOnes.size()) return BAD;
        List<Integer> said = keptOnes.get(k).get(0);
        List<Integer> made = keptOnes.get(k).get(1);
        if (said.equals(made) || read(said)) return NO;
        List<Map.Entry<List<Integer>, Integer>> all = mends(said, 0);
        for (int i = 0; i < all.size(); i++) if (all.get(i).getKey().equals(made)) return i;
        return NONE;
    }

    int err(int change) {
        if (change < 0 || change > 4) return BAD;
        if (errors.size() == 60) return FULL;
        errors.add(change);
        return errors.size();
    }

    int gone(int change, int n) {
        if (change < 0 || change > 4 || n < 1 || n > 60) return BAD;
        int last = errors.lastIndexOf(change);
        return last >= 0 && errors.size() - last > n ? 1 : 0;
    }

    int count(int what) {
        int inSentences = 0;
        for (List<Integer> row : sentences) inSentences += row.size();
        int[] all = {words.size(), rules.size(), text.length(), keptOnes.size(), errors.size(), inSentences};
        return what >= 0 && what < all.length ? all[what] : BAD;
    }
}
