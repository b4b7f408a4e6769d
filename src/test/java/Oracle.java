import java.util.ArrayList;
import java.util.HashMap;
import java.util.HashSet;
import java.util.List;
import java.util.Map;
import java.util.Set;

/**
 * The document once more, written the slow way: every question is answered by trying all there is.
 * It shares nothing with the program, so that a slip in one of them shows as a difference.
 */
final class Oracle {
    static final long NO = -4611686018427387904L;

    private static final class Card {
        int kind;
        int more;
        int told;
        int side;

        Card same() {
            Card c = new Card();
            c.kind = kind;
            c.more = more;
            c.told = told;
            c.side = side;
            return c;
        }
    }

    private interface Expr {
        int of(Map<String, Integer> names);
    }

    private static final class Fault extends RuntimeException {
        final int place;

        Fault(int place) {
            this.place = place;
        }
    }

    private List<Card> cards = new ArrayList<>();
    private int law = 0;
    private List<Card> keptCards = null;
    private int keptLaw;
    private final List<Expr[]> texts = new ArrayList<>();
    private final List<Integer> tape = new ArrayList<>();
    private final int[][] sheets = new int[4][];
    private final int[] sorts = new int[4];

    Oracle() {
        texts.add(new Expr[] {e -> e.get("number"), e -> 1, e -> 1});
    }

    // ---- reading

    private static final class Token {
        final int place;
        final String word;

        Token(int place, String word) {
            this.place = place;
            this.word = word;
        }
    }

    private static final Set<String> KNOWN = Set.of("counts", "moves", "asks", "or", "and", "not",
        "number", "more", "card", "many", "kind", "left");
    private static final Set<String> NAMED = Set.of("number", "more", "card", "many", "kind", "left");

    private List<Token> tokens;
    private int now;
    private int open;

    private void tokenize() {
        StringBuilder all = new StringBuilder();
        for (int b : tape) {
            all.append((char) b);
        }
        tokens = new ArrayList<>();
        java.util.regex.Matcher m =
            java.util.regex.Pattern.compile("[a-z]+|[0-9]+|[();+\\-*<=]|[ \\n]+|(?s:.)").matcher(all);
        while (m.find()) {
            String word = m.group();
            if (word.charAt(0) == ' ' || word.charAt(0) == '\n') {
                continue;
            }
            boolean fine = word.matches("[0-9]{1,4}|[();+\\-*<=]") || KNOWN.contains(word);
            tokens.add(new Token(m.start(), fine ? word : "?"));
        }
        tokens.add(new Token(all.length(), ""));
        now = 0;
        open = 0;
    }

    private String word() {
        return tokens.get(now).word;
    }

    private Fault fault() {
        return new Fault(tokens.get(now).place);
    }

    private void must(String word) {
        if (!word().equals(word)) {
            throw fault();
        }
        now++;
    }

    private void opens() {
        if (open == 5) {
            throw fault();
        }
        open++;
        now++;
    }

    private Expr e() {
        Expr a = and();
        while (word().equals("or")) {
            now++;
            Expr l = a;
            Expr r = and();
            a = n -> l.of(n) != 0 | r.of(n) != 0 ? 1 : 0;
        }
        return a;
    }

    private Expr and() {
        Expr a = not();
        while (word().equals("and")) {
            now++;
            Expr l = a;
            Expr r = not();
            a = n -> l.of(n) != 0 & r.of(n) != 0 ? 1 : 0;
        }
        return a;
    }

    private Expr not() {
        if (word().equals("not")) {
            opens();
            Expr a = not();
            open--;
            return n -> a.of(n) == 0 ? 1 : 0;
        }
        Expr l = sum();
        if (word().equals("<")) {
            now++;
            Expr r = sum();
            return n -> l.of(n) < r.of(n) ? 1 : 0;
        }
        if (word().equals("=")) {
            now++;
            Expr r = sum();
            return n -> l.of(n) == r.of(n) ? 1 : 0;
        }
        return l;
    }

    private Expr sum() {
        Expr a = term();
        while (word().equals("+") || word().equals("-")) {
            int sign = word().equals("+") ? 1 : -1;
            now++;
            Expr l = a;
            Expr r = term();
            a = n -> l.of(n) + sign * r.of(n);
        }
        return a;
    }

    private Expr term() {
        Expr a = one();
        while (word().equals("*")) {
            now++;
            Expr l = a;
            Expr r = one();
            a = n -> l.of(n) * r.of(n);
        }
        return a;
    }

    private Expr one() {
        String word = word();
        if (word.equals("(")) {
            opens();
            Expr a = e();
            must(")");
            open--;
            return a;
        }
        if (word.equals("-")) {
            opens();
            Expr a = one();
            open--;
            return n -> -a.of(n);
        }
        if (NAMED.contains(word)) {
            now++;
            return n -> n.get(word);
        }
        if (word.matches("[0-9]+")) {
            int number = Integer.parseInt(word);
            now++;
            return n -> number;
        }
        throw fault();
    }

    // ---- what counts

    private int say(int t, int part, int c, int left) {
        Card card = cards.get(c);
        Map<String, Integer> names = new HashMap<>();
        names.put("number", card.told);
        names.put("more", card.more);
        names.put("card", c);
        names.put("many", cards.size());
        names.put("kind", card.kind);
        names.put("left", left);
        int v = texts.get(t)[part].of(names);
        int least = part == 0 ? -999 : 0;
        int greatest = part == 0 ? 999 : 99;
        return v < least ? least : v > greatest ? greatest : v;
    }

    private int leftOf(int c) {
        return cards.get(c).side == 1 ? 1 : 0;
    }

    private int counts(int t, int c) {
        int said = say(t, 0, c, leftOf(c));
        int more = cards.get(c).more;
        return new int[] {said, 2 * said, said, 2 * said + more, -said, more}[cards.get(c).kind];
    }

    private int moves(int c) {
        int said = say(law, 1, c, leftOf(c));
        return new int[] {said, said, said + 3, 2 * said, said + 3, 0}[cards.get(c).kind];
    }

    private int sides(int c) {
        int kind = cards.get(c).kind;
        return kind == 2 || kind == 4 ? cards.get(c).more % 2 + 1 : 3;
    }

    private boolean may(int heap, int side) {
        for (int c = 0; c < cards.size(); c++) {
            if ((heap & 1 << c) != 0 && (sides(c) & side) == 0) {
                return false;
            }
        }
        return true;
    }

    private int all() {
        return (1 << cards.size()) - 1;
    }

    private int[] counted(int t) {
        int[] row = new int[cards.size()];
        for (int c = 0; c < row.length; c++) {
            row[c] = counts(t, c);
        }
        return row;
    }

    private static int sum(int[] counts, int heap) {
        int sum = 0;
        for (int c = 0; c < counts.length; c++) {
            if ((heap & 1 << c) != 0) {
                sum += counts[c];
            }
        }
        return sum;
    }

    private int[] sums() {
        int[] counts = counted(law);
        int[] sums = new int[all() + 1];
        for (int h = 0; h < sums.length; h++) {
            sums[h] = sum(counts, h);
        }
        return sums;
    }

    private int lying(int side) {
        int heap = 0;
        for (int c = 0; c < cards.size(); c++) {
            heap |= cards.get(c).side == side ? 1 << c : 0;
        }
        return heap;
    }

    private boolean isHeap(int h) {
        return h >= 0 && h <= all();
    }

    private boolean isCard(int c) {
        return c >= 0 && c < cards.size();
    }

    // ---- the calls

    int count(int what) {
        return what == 0 ? cards.size() : what == 1 ? lying(1) : what == 2 ? lying(2)
            : what == 3 ? texts.size() : what == 4 ? law : what == 5 ? tape.size() : -2;
    }

    int feed(int n, int a, int b, int c, int d, int e) {
        int[] bytes = {a, b, c, d, e};
        for (int x : bytes) {
            if (x < 0 || x > 255) {
                return -2;
            }
        }
        if (n < 1 || n > 5) {
            return -2;
        }
        if (tape.size() + n > 160) {
            return -4;
        }
        for (int i = 0; i < n; i++) {
            tape.add(bytes[i]);
        }
        return tape.size();
    }

    int text() {
        if (texts.size() == 6) {
            return -4;
        }
        tokenize();
        tape.clear();
        try {
            Expr[] parts = new Expr[3];
            String[] keys = {"counts", "moves", "asks"};
            for (int p = 0; p < 3; p++) {
                must(keys[p]);
                parts[p] = e();
                must(";");
            }
            if (!word().equals("")) {
                throw fault();
            }
            texts.add(parts);
            return texts.size() - 1;
        } catch (Fault f) {
            return -100 - f.place;
        }
    }

    int force(int t) {
        if (t < 0 || t >= texts.size()) {
            return -2;
        }
        int was = law;
        law = t;
        return was;
    }

    int asks(int part, int c, int side) {
        return !isCard(c) ? -10000 : part < 0 || part > 2 || side < 0 || side > 1 ? -20000 : say(law, part, c, side);
    }

    int card(int kindMore, int number) {
        if (kindMore < 0 || kindMore > 59 || number < 0 || number > 999) {
            return -2;
        }
        if (cards.size() == 10) {
            return -4;
        }
        Card c = new Card();
        c.kind = kindMore / 10;
        c.more = kindMore % 10;
        c.told = number;
        cards.add(c);
        return cards.size() - 1;
    }

    int drop() {
        if (cards.isEmpty()) {
            return -3;
        }
        cards.remove(cards.size() - 1);
        return cards.size();
    }

    int lay(int c, int side) {
        if (!isCard(c)) {
            return -5;
        }
        if (side < 0 || side > 2) {
            return -7;
        }
        if (side == 1 && !may(1 << c, 1) || side == 2 && !may(1 << c, 2)) {
            return -3;
        }
        int was = cards.get(c).side;
        cards.get(c).side = side;
        return was;
    }

    int told(int c, int what) {
        if (!isCard(c)) {
            return -10000;
        }
        if (what < 0 || what > 6) {
            return -20000;
        }
        Card card = cards.get(c);
        return new int[] {card.kind, card.told, card.more, card.side, counts(law, c), sides(c), moves(c)}[what];
    }

    int heap(int set, int what) {
        if (!isHeap(set)) {
            return -100000;
        }
        if (what < 0 || what > 2) {
            return -200000;
        }
        int[] counts = counted(law);
        int[] squares = counts.clone();
        for (int c = 0; c < squares.length; c++) {
            squares[c] *= squares[c];
        }
        return what == 0 ? sum(counts, set) : what == 1 ? sum(squares, set) : Integer.bitCount(set);
    }

    int apart() {
        return sum(counted(law), lying(1)) - sum(counted(law), lying(2));
    }

    int must() {
        int least = 0;
        int greatest = 0;
        for (int s : sums()) {
            least = Math.min(least, s);
            greatest = Math.max(greatest, s);
        }
        return sums().length > greatest - least + 1 ? 1 : 0;
    }

    int alike(int sort, int what) {
        if (sort < 0 || sort > 2 || what < 0 || what > 3) {
            return -2;
        }
        int[] sums = sums();
        int[] answers = {0, -1, -1, 0};
        for (int l = 1; l <= all(); l++) {
            for (int r = 1; r <= all(); r++) {
                if ((l & r) != 0 || sums[l] != sums[r] || !may(l, 1) || !may(r, 2)) {
                    continue;
                }
                if (sort == 1 && Integer.bitCount(l) != Integer.bitCount(r)) {
                    continue;
                }
                if (sort == 2 && heap(l, 1) != heap(r, 1)) {
                    continue;
                }
                if (answers[0]++ == 0) {
                    answers[1] = l;
                    answers[2] = r;
                }
                answers[3] = Math.max(answers[3], Integer.bitCount(l) + Integer.bitCount(r));
            }
        }
        return answers[what];
    }

    int three(int what) {
        if (what < 0 || what > 3) {
            return -2;
        }
        int[] sums = sums();
        long first = Long.MAX_VALUE;
        int many = 0;
        for (int way = 0; way < 1 << 2 * cards.size(); way++) {
            int[] heaps = new int[4];
            for (int c = 0; c < cards.size(); c++) {
                heaps[way >> 2 * c & 3] |= 1 << c;
            }
            if (heaps[1] > 0 && heaps[1] < heaps[2] && heaps[2] < heaps[3]
                && sums[heaps[1]] == sums[heaps[2]] && sums[heaps[1]] == sums[heaps[3]]) {
                many++;
                first = Math.min(first, ((long) heaps[1] << 20) + (heaps[2] << 10) + heaps[3]);
            }
        }
        return what == 0 ? many : many == 0 ? -1 : (int) (first >> 10 * (3 - what) & 1023);
    }

    int fair(int sort, int what) {
        if (sort < 0 || sort > 1 || what < 0 || what > 1) {
            return -2;
        }
        int[] sums = sums();
        int[] best = {-1, -1};
        for (int l = all(); l >= 0; l--) {
            int r = all() - l;
            if (!may(l, 1) || !may(r, 2) || sort == 1 && Integer.bitCount(l) != Integer.bitCount(r)) {
                continue;
            }
            int far = Math.abs(sums[l] - sums[r]);
            if (best[0] < 0 || far <= best[1]) {
                best = new int[] {l, far};
            }
        }
        return best[what];
    }

    int thirds(int what) {
        if (what < 0 || what > 2) {
            return -2;
        }
        int[] sums = sums();
        int[] best = null;
        for (int way = 0; way < Math.pow(3, cards.size()); way++) {
            int[] heaps = new int[3];
            int rest = way;
            for (int c = 0; c < cards.size(); c++) {
                heaps[rest % 3] |= 1 << c;
                rest /= 3;
            }
            int[] three = {sums[heaps[0]], sums[heaps[1]], sums[heaps[2]]};
            java.util.Arrays.sort(three);
            int far = three[2] - three[0];
            if (best == null || far < best[2] || far == best[2]
                && (heaps[0] < best[0] || heaps[0] == best[0] && heaps[1] < best[1])) {
                best = new int[] {heaps[0], heaps[1], far};
            }
        }
        return best[what];
    }

    int swap(int what) {
        if (what < 0 || what > 1) {
            return -2;
        }
        int[] best = {-1, Math.abs(apart())};
        for (int c = 0; c < cards.size(); c++) {
            for (int d = 0; d < cards.size(); d++) {
                if (cards.get(c).side == 1 && cards.get(d).side == 2 && may(1 << c, 2) && may(1 << d, 1)) {
                    cards.get(c).side = 2;
                    cards.get(d).side = 1;
                    int far = Math.abs(apart());
                    cards.get(c).side = 1;
                    cards.get(d).side = 2;
                    if (far < best[1]) {
                        best = new int[] {10 * c + d, far};
                    }
                }
            }
        }
        return best[what];
    }

    int mend(int most, int what) {
        if (most < 0 || most > 9999 || what < 0 || what > 1) {
            return -2;
        }
        int[] sums = sums();
        int[] best = {-1, -1};
        int on = lying(1) + lying(2);
        for (int l = 0; l <= all(); l++) {
            int r = on & ~l;
            if ((l & ~on) != 0 || !may(l, 1) || !may(r, 2) || Math.abs(sums[l] - sums[r]) > most) {
                continue;
            }
            int cost = 0;
            for (int c = 0; c < cards.size(); c++) {
                boolean toLeft = (l & 1 << c) != 0;
                if ((on & 1 << c) != 0 && toLeft != (cards.get(c).side == 1)) {
                    cost += moves(c);
                }
            }
            if (best[0] < 0 || cost < best[0]) {
                best = new int[] {cost, l};
            }
        }
        return best[what];
    }

    private Set<Integer> unlikeSums(int[] sums) {
        Set<Integer> set = new HashSet<>();
        for (int s : sums) {
            set.add(s);
        }
        return set;
    }

    int unlike(int what) {
        if (what < 0 || what > 1) {
            return -2;
        }
        int many = unlikeSums(sums()).size();
        return what == 1 ? many : many == sums().length ? 1 : 0;
    }

    int next() {
        int[] sums = sums();
        Set<Integer> now = unlikeSums(sums);
        if (now.size() < sums.length) {
            return -1;
        }
        for (int d = 1; d <= 999; d++) {
            boolean fine = true;
            for (int s : sums) {
                fine &= !now.contains(s + d);
            }
            if (fine) {
                return d;
            }
        }
        return -1;
    }

    int spread() {
        int[] counts = counted(law);
        for (int c = 0; c < counts.length; c++) {
            if (!(counts[c] > sum(counts, (1 << c) - 1))) {
                return c;
            }
        }
        return -1;
    }

    private List<Integer> heapsOf(int sum) {
        int[] sums = sums();
        List<Integer> heaps = new ArrayList<>();
        for (int h = 0; h < sums.length; h++) {
            if (sums[h] == sum) {
                heaps.add(h);
            }
        }
        return heaps;
    }

    int key(int sum, int what) {
        if (what < 0 || what > 3) {
            return -2;
        }
        List<Integer> heaps = heapsOf(sum);
        if (what == 0) {
            return heaps.size();
        }
        if (heaps.isEmpty()) {
            return what == 1 ? -1 : 0;
        }
        int bits = 0;
        for (int c = 0; c < cards.size(); c++) {
            int in = 0;
            for (int h : heaps) {
                in += h >> c & 1;
            }
            if (what == 2 && in == heaps.size() || what == 3 && in == 0) {
                bits |= 1 << c;
            }
        }
        return what == 1 ? heaps.get(0) : bits;
    }

    int pigeon(int what) {
        if (what < 0 || what > 2) {
            return -2;
        }
        int[] sums = sums();
        for (int a = 0; a < sums.length; a++) {
            for (int b = a + 1; b < sums.length; b++) {
                if (sums[a] == sums[b]) {
                    return what == 0 ? a : what == 1 ? b : a & b;
                }
            }
        }
        return what == 2 ? 0 : -1;
    }

    private int worst(List<Integer> heaps, Map<List<Integer>, Integer> known) {
        if (heaps.size() < 2) {
            return 0;
        }
        Integer before = known.get(heaps);
        if (before != null) {
            return before;
        }
        int best = Integer.MAX_VALUE;
        for (int c = 0; c < cards.size(); c++) {
            best = Math.min(best, worstBy(heaps, c, known));
        }
        known.put(heaps, best);
        return best;
    }

    private int worstBy(List<Integer> heaps, int c, Map<List<Integer>, Integer> known) {
        List<Integer> in = new ArrayList<>(heaps);
        in.removeIf(h -> (h >> c & 1) == 0);
        List<Integer> out = new ArrayList<>(heaps);
        out.removeAll(in);
        if (in.isEmpty() || out.isEmpty()) {
            return Integer.MAX_VALUE;
        }
        return say(law, 2, c, leftOf(c)) + Math.max(worst(in, known), worst(out, known));
    }

    int question(int sum, int what) {
        if (what < 0 || what > 1) {
            return -2;
        }
        List<Integer> heaps = heapsOf(sum);
        if (heaps.size() > 12) {
            return -4;
        }
        if (heaps.isEmpty()) {
            return -5;
        }
        Map<List<Integer>, Integer> known = new HashMap<>();
        int cost = worst(heaps, known);
        if (what == 0) {
            return cost;
        }
        for (int c = 0; c < cards.size() && heaps.size() > 1; c++) {
            if (worstBy(heaps, c, known) == cost) {
                return c;
            }
        }
        return -1;
    }

    private int refusal(int s) {
        if (s < 0 || s > 3) {
            return -2;
        }
        if (sheets[s] == null) {
            return -11;
        }
        if (sheets[s].length % 2 == 1) {
            return -2;
        }
        for (int i = 0; i < sheets[s].length; i += 2) {
            if (!isHeap(sheets[s][i])) {
                return -2;
            }
        }
        return 0;
    }

    private int judged(int s, int t) {
        for (int i = 0; i < sheets[s].length; i += 2) {
            if (sum(counted(t), sheets[s][i]) != sheets[s][i + 1]) {
                return i / 2;
            }
        }
        return -1;
    }

    int judge(int s) {
        return refusal(s) != 0 ? refusal(s) : judged(s, law);
    }

    int blame(int s) {
        if (refusal(s) != 0) {
            return refusal(s);
        }
        int bits = 0;
        for (int c = 0; c < cards.size(); c++) {
            bits |= more(s, c) != NO ? 1 << c : 0;
        }
        return bits;
    }

    long more(int s, int c) {
        if (refusal(s) != 0 || !isCard(c)) {
            return NO;
        }
        int[] counts = counted(law);
        for (int i = 0; i < sheets[s].length; i += 2) {
            long by = (long) sheets[s][i + 1] - sum(counts, sheets[s][i]);
            boolean fine = by != 0;
            for (int j = 0; j < sheets[s].length; j += 2) {
                long then = sum(counts, sheets[s][j]) + ((sheets[s][j] >> c & 1) == 1 ? by : 0L);
                fine &= then == sheets[s][j + 1];
            }
            if (fine) {
                return by;
            }
        }
        return NO;
    }

    int laws(int s) {
        if (refusal(s) != 0) {
            return refusal(s);
        }
        int bits = 0;
        for (int t = 0; t < texts.size(); t++) {
            bits |= judged(s, t) == -1 ? 1 << t : 0;
        }
        return bits;
    }

    int film(int s, int from, int n) {
        if (s < 0 || s > 3) {
            return -2;
        }
        if (!isHeap(from) || n < 0 || n > 20) {
            return -7;
        }
        List<Integer> row = new ArrayList<>();
        for (int h = from; h <= all() && h < from + n; h++) {
            row.add(h);
            row.add(sum(counted(law), h));
        }
        sheets[s] = row.stream().mapToInt(i -> i).toArray();
        sorts[s] = 2;
        return row.size() / 2;
    }

    int seen(int s, int what) {
        if (s < 0 || s > 3 || what < 0 || what > 1) {
            return -2;
        }
        if (sheets[s] == null) {
            return -11;
        }
        int first = -1;
        int many = 0;
        for (int i = sheets[s].length - 1; i >= 0; i--) {
            int have = heapsOf(sheets[s][i]).size();
            many += have;
            first = have == 0 ? i : first;
        }
        return what == 0 ? first : many;
    }

    private int lots(int seed) {
        java.math.BigInteger lot = java.math.BigInteger.valueOf(seed + 1);
        int left = 0;
        for (int c = 0; c < cards.size(); c++) {
            lot = lot.multiply(java.math.BigInteger.valueOf(48271)).mod(java.math.BigInteger.valueOf(2147483647));
            boolean toLeft = sides(c) == 3 ? !lot.testBit(0) : sides(c) == 1;
            left |= toLeft ? 1 << c : 0;
        }
        return left;
    }

    private int far(int left) {
        return Math.abs(sum(counted(law), left) - sum(counted(law), all() & ~left));
    }

    int drawn(int seed, int what) {
        if (seed < 0 || seed > 99999 || what < 0 || what > 1) {
            return -2;
        }
        return what == 0 ? lots(seed) : far(lots(seed));
    }

    int deal(int seed) {
        if (seed < 0 || seed > 99999) {
            return -2;
        }
        int left = lots(seed);
        for (int c = 0; c < cards.size(); c++) {
            cards.get(c).side = (left >> c & 1) == 1 ? 1 : 2;
        }
        return Math.abs(apart());
    }

    long odds(int seed, int seeds, int most, int part) {
        if (seed < 0 || seed > 99999 || seeds < 1 || seeds > 40 || most < 0 || most > 9999 || part < 0 || part > 1) {
            return NO;
        }
        int near = 0;
        for (int i = seed; i < seed + seeds; i++) {
            near += far(lots(i)) <= most ? 1 : 0;
        }
        int gcd = java.math.BigInteger.valueOf(near).gcd(java.math.BigInteger.valueOf(seeds)).intValue();
        return part == 0 ? near / gcd : seeds / gcd;
    }

    private static List<Card> sameCards(List<Card> cards) {
        List<Card> same = new ArrayList<>();
        for (Card c : cards) {
            same.add(c.same());
        }
        return same;
    }

    int image() {
        keptCards = sameCards(cards);
        keptLaw = law;
        return cards.size();
    }

    int back() {
        if (keptCards == null) {
            return -3;
        }
        cards = sameCards(keptCards);
        law = keptLaw;
        return cards.size();
    }

    int sheet(int s, int sort, int n) {
        if (s < 0 || s > 3 || sort < -1 || sort > 2 || sort >= 0 && n > 40) {
            return -2;
        }
        if (sort >= 0 && n < 0) {
            return -14;
        }
        sheets[s] = sort < 0 ? null : new int[n];
        sorts[s] = sort;
        return 1;
    }

    int cell(int s, int i, int v) {
        if (s < 0 || s > 3) {
            return -2;
        }
        if (sheets[s] == null) {
            return -11;
        }
        if (i < 0 || i >= sheets[s].length) {
            return -12;
        }
        sheets[s][i] = sorts[s] == 0 ? (byte) v : sorts[s] == 1 ? (short) v : v;
        return 1;
    }

    int copy(int s, int i, int other, int j, int n) {
        if (s < 0 || s > 3 || other < 0 || other > 3) {
            return -2;
        }
        if (sheets[s] == null || sheets[other] == null) {
            return -11;
        }
        if (sorts[s] != sorts[other]) {
            return -13;
        }
        try {
            System.arraycopy(sheets[s], i, sheets[other], j, n);
        } catch (IndexOutOfBoundsException outside) {
            return -12;
        }
        return n;
    }

    int cardsBy(int s, int sort, int at, int n) {
        if (s < 0 || s > 3 || sort < 0 || sort > 2 || n < 0 || n > 10) {
            return -2;
        }
        if (sheets[s] == null) {
            return -11;
        }
        if (sorts[s] != sort) {
            return -13;
        }
        int came = 0;
        long place = at;
        for (int k = 0; k < n; k++) {
            if (place < 0 || place + 1 >= sheets[s].length) {
                return -12;
            }
            came += card(sheets[s][(int) place], sheets[s][(int) place + 1]) >= 0 ? 1 : 0;
            place += 2;
        }
        return came;
    }

    int taken(int i, int kind) {
        if (kind < 0 || kind > 6) {
            return -100000;
        }
        if (i < 0 || i > 11) {
            return -100012;
        }
        if (i < 2) {
            int heap = lying(i + 1);
            return heap == 0 ? -100011 : kind != 6 ? -100013 : sum(counted(law), heap);
        }
        if (!isCard(i - 2)) {
            return -100011;
        }
        String[] kinds = {"0", "01", "02", "013", "024", "05"};
        return kinds[cards.get(i - 2).kind].contains("" + kind) ? i - 2 : -100013;
    }
}
