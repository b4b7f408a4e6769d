/** Two heaps alike: cards on a table, what they count by a text, and what their heaps have in common. */
public final class TwoHeapsAlike {
    public static final int NONE = -1, BAD = -2, STATE = -3, FULL = -4;
    public static final long NO = -4611686018427387904L;

    private static final int NO_SUCH = -5, NOT_SO = -7;
    private static final int NOTHING = -11, OUTSIDE = -12, OTHER_SORT = -13, BELOW = -14;
    // Counts and sums may be below 0, so what is refused there lies far below all of them.
    private static final int NO_CARD = -10000, NO_PART = -20000, NO_HEAP = -100000, NO_WHAT = -200000;
    private static final int TAKEN = -100000;

    private static final int CARDS = 10, HEAPS = 1024;
    private static final int KINDS = 6, TWICE = 1, BOUND = 2, GREAT = 3, DEBT = 4, BLANK = 5, A_HEAP = 6;
    private static final int[] KIND_ABOVE = {-1, 0, 0, 1, 2, 0};
    // Where a card lies, and as bits the sides on which it may.
    private static final int ASIDE = 0, LEFT = 1, RIGHT = 2, BOTH_SIDES = 3;
    private static final int MOST_TOLD = 999, MOST_APART = 9999, MOST_SEED = 99999, MOST_SEEDS = 40;
    private static final int BYTES = 160, TEXTS = 6, PARTS = 3, COUNTING = 0, MOVING = 1, ASKING = 2;
    private static final int SHEETS = 4, PLACES = 40, MISSING = -1, INTS = 2, FILM_ROWS = 20;

    private static final int NAMES = 6;
    // Steps of a text's code: 0 and more are numbers, -1 .. -6 names, these what is done with them.
    private static final int NEGATE = -10, DENY = -11, TIMES = -12, PLUS = -13, LESS_BY = -14;
    private static final int BELOW_IT = -15, SAME = -16, BOTH = -17, EITHER = -18;

    private final Table table = new Table();
    private final Table kept = new Table();
    private boolean hasImage;
    private final Tape tape = new Tape();
    private final Text[] texts = new Text[TEXTS];
    private int textCount;
    private final int[] names = new int[NAMES];
    private final Heaps heaps = new Heaps();
    private final Sheet[] sheets = new Sheet[SHEETS];
    private final int[] found = new int[4];

    public TwoHeapsAlike() {
        for (int t = 0; t < TEXTS; t++) {
            texts[t] = new Text();
        }
        for (int s = 0; s < SHEETS; s++) {
            sheets[s] = new Sheet();
        }
        texts[0].becomeFirst();
        textCount = 1;
    }

    // ---- the law

    public int count(int what) {
        switch (what) {
            case 0: return table.size;
            case 1: return table.lying(LEFT);
            case 2: return table.lying(RIGHT);
            case 3: return textCount;
            case 4: return table.law;
            case 5: return tape.size;
            default: return BAD;
        }
    }

    public int feed(int n, int a, int b, int c, int d, int e) {
        boolean bytes = isByte(a) && isByte(b) && isByte(c) && isByte(d) && isByte(e);
        if (n < 1 || n > 5 || !bytes) {
            return BAD;
        }
        if (tape.size + n > BYTES) {
            return FULL;
        }
        for (int i = 0; i < n; i++) {
            tape.append(i == 0 ? a : i == 1 ? b : i == 2 ? c : i == 3 ? d : e);
        }
        return tape.size;
    }

    public int text() {
        if (textCount >= TEXTS) {
            return FULL;
        }
        int fault = tape.readInto(texts[textCount]);
        tape.size = 0;
        if (fault >= 0) {
            return -100 - fault;
        }
        textCount++;
        return textCount - 1;
    }

    public int force(int t) {
        if (t < 0 || t >= textCount) {
            return BAD;
        }
        int before = table.law;
        table.law = t;
        return before;
    }

    public int asks(int part, int c, int side) {
        if (!table.has(c)) {
            return NO_CARD;
        }
        if (part < 0 || part >= PARTS || side < 0 || side > 1) {
            return NO_PART;
        }
        return says(law(), part, c, side);
    }

    // ---- cards

    public int card(int kindMore, int number) {
        if (kindMore < 0 || kindMore >= 10 * KINDS || number < 0 || number > MOST_TOLD) {
            return BAD;
        }
        if (table.size >= CARDS) {
            return FULL;
        }
        return table.append(kindMore / 10, kindMore % 10, number);
    }

    public int drop() {
        if (table.size <= 0) {
            return STATE;
        }
        table.size--;
        return table.size;
    }

    public int lay(int c, int side) {
        if (!table.has(c)) {
            return NO_SUCH;
        }
        if (side < ASIDE || side > RIGHT) {
            return NOT_SO;
        }
        if (side != ASIDE && (table.sides(c) & side) == 0) {
            return STATE;
        }
        int before = table.places[c];
        table.places[c] = side;
        return before;
    }

    public int told(int c, int what) {
        if (!table.has(c)) {
            return NO_CARD;
        }
        switch (what) {
            case 0: return table.kinds[c];
            case 1: return table.numbers[c];
            case 2: return table.mores[c];
            case 3: return table.places[c];
            case 4: return counted(law(), c, table.leftness(c));
            case 5: return table.sides(c);
            case 6: return moving(c);
            default: return NO_PART;
        }
    }

    // ---- heaps

    public int heap(int set, int what) {
        if (!table.isHeap(set)) {
            return NO_HEAP;
        }
        if (what < 0 || what > 2) {
            return NO_WHAT;
        }
        weigh(law());
        return what == 0 ? heaps.sumOf(set) : what == 1 ? heaps.squaresOf(set) : Integer.bitCount(set);
    }

    public int apart() {
        weigh(law());
        return heaps.sumOf(table.lying(LEFT)) - heaps.sumOf(table.lying(RIGHT));
    }

    public int must() {
        weigh(law());
        int least = 0;
        int greatest = 0;
        for (int c = 0; c < table.size; c++) {
            least += Math.min(heaps.counts[c], 0);
            greatest += Math.max(heaps.counts[c], 0);
        }
        return 1 << table.size > greatest - least + 1 ? 1 : 0;
    }

    public int alike(int sort, int what) {
        if (sort < 0 || sort > 2 || what < 0 || what > 3) {
            return BAD;
        }
        weighAll();
        heaps.findPairs(sort, table.mayLie(LEFT), table.mayLie(RIGHT), found);
        return found[what];
    }

    public int three(int what) {
        if (what < 0 || what > 3) {
            return BAD;
        }
        weighAll();
        heaps.findThrees(what != 0, found);
        return found[what];
    }

    // ---- parted

    public int fair(int sort, int what) {
        if (sort < 0 || sort > 1 || what < 0 || what > 1) {
            return BAD;
        }
        weighAll();
        heaps.findFair(sort == 1, table.mayLie(LEFT), table.mayLie(RIGHT), found);
        return found[what];
    }

    public int thirds(int what) {
        if (what < 0 || what > 2) {
            return BAD;
        }
        weighAll();
        heaps.findThirds(found);
        return found[what];
    }

    public int swap(int what) {
        if (what < 0 || what > 1) {
            return BAD;
        }
        findSwap();
        return found[what];
    }

    public int mend(int most, int what) {
        if (most < 0 || most > MOST_APART || what < 0 || what > 1) {
            return BAD;
        }
        weighAll();
        findMend(most);
        return found[what];
    }

    // ---- unlike sums, keys

    public int unlike(int what) {
        if (what < 0 || what > 1) {
            return BAD;
        }
        weighAll();
        int unlikeSums = heaps.unlikeSums();
        return what == 1 ? unlikeSums : unlikeSums == heaps.all + 1 ? 1 : 0;
    }

    public int next() {
        weighAll();
        return heaps.nextNumber();
    }

    public int spread() {
        weigh(law());
        int before = 0;
        for (int c = 0; c < table.size; c++) {
            if (heaps.counts[c] <= before) {
                return c;
            }
            before += heaps.counts[c];
        }
        return NONE;
    }

    public int key(int sum, int what) {
        if (what < 0 || what > 3) {
            return BAD;
        }
        weighAll();
        heaps.findKey(sum, found);
        return found[what];
    }

    public int pigeon(int what) {
        if (what < 0 || what > 2) {
            return BAD;
        }
        weighAll();
        heaps.findPigeon(found);
        return found[what];
    }

    public int question(int sum, int what) {
        if (what < 0 || what > 1) {
            return BAD;
        }
        weighAll();
        int candidates = heaps.gather(sum);
        if (candidates > Heaps.CANDIDATES) {
            return FULL;
        }
        if (candidates == 0) {
            return NO_SUCH;
        }
        for (int c = 0; c < table.size; c++) {
            heaps.costs[c] = says(law(), ASKING, c, table.leftness(c));
        }
        heaps.findQuestion(candidates, found);
        return found[what];
    }

    // ---- told sums

    public int judge(int s) {
        int refusal = refusalOfRows(s);
        if (refusal != 0) {
            return refusal;
        }
        weigh(law());
        return firstWrongRow(sheets[s]);
    }

    public int blame(int s) {
        int refusal = refusalOfRows(s);
        if (refusal != 0) {
            return refusal;
        }
        weigh(law());
        int blamed = 0;
        for (int c = 0; c < table.size; c++) {
            if (missingOf(sheets[s], c) != NO) {
                blamed |= 1 << c;
            }
        }
        return blamed;
    }

    public long more(int s, int c) {
        // BAD and -11 are also numbers by which a card could count more, so what judge refuses is NO, too.
        if (refusalOfRows(s) != 0 || !table.has(c)) {
            return NO;
        }
        weigh(law());
        return missingOf(sheets[s], c);
    }

    public int laws(int s) {
        int refusal = refusalOfRows(s);
        if (refusal != 0) {
            return refusal;
        }
        int fitting = 0;
        for (int t = 0; t < textCount && t < TEXTS; t++) {
            weigh(texts[t]);
            if (firstWrongRow(sheets[s]) == NONE) {
                fitting |= 1 << t;
            }
        }
        return fitting;
    }

    public int film(int s, int from, int n) {
        if (!isSheet(s)) {
            return BAD;
        }
        if (!table.isHeap(from) || n < 0 || n > FILM_ROWS) {
            return NOT_SO;
        }
        weigh(law());
        int rows = Math.min(n, (1 << table.size) - from);
        sheets[s].become(INTS, 2 * rows);
        for (int row = 0; row < rows; row++) {
            sheets[s].put(2 * row, from + row);
            sheets[s].put(2 * row + 1, heaps.sumOf(from + row));
        }
        return rows;
    }

    public int seen(int s, int what) {
        if (!isSheet(s) || what < 0 || what > 1) {
            return BAD;
        }
        if (sheets[s].sort == MISSING) {
            return NOTHING;
        }
        weighAll();
        int unseen = NONE;
        int together = 0;
        for (int i = 0; i < sheets[s].size; i++) {
            int having = heaps.having(sheets[s].numbers[i]);
            together += having;
            if (having == 0 && unseen == NONE) {
                unseen = i;
            }
        }
        return what == 0 ? unseen : together;
    }

    // ---- heaps by lot

    public int drawn(int seed, int what) {
        if (!isSeed(seed) || what < 0 || what > 1) {
            return BAD;
        }
        int left = drawLeft(seed);
        if (what == 0) {
            return left;
        }
        weigh(law());
        return heaps.apartBy(left);
    }

    public int deal(int seed) {
        if (!isSeed(seed)) {
            return BAD;
        }
        int left = drawLeft(seed);
        for (int c = 0; c < table.size; c++) {
            table.places[c] = (left >> c & 1) == 1 ? LEFT : RIGHT;
        }
        weigh(law());
        return heaps.apartBy(left);
    }

    public long odds(int seed, int seeds, int most, int part) {
        boolean manyAsTold = seeds >= 1 && seeds <= MOST_SEEDS;
        if (!isSeed(seed) || !manyAsTold || most < 0 || most > MOST_APART || part < 0 || part > 1) {
            return NO;
        }
        weigh(law());
        int near = 0;
        for (int i = 0; i < seeds; i++) {
            if (heaps.apartBy(drawLeft(seed + i)) <= most) {
                near++;
            }
        }
        int divisor = commonDivisor(near, seeds);
        return part == 0 ? near / divisor : seeds / divisor;
    }

    public int image() {
        kept.become(table);
        hasImage = true;
        return kept.size;
    }

    public int back() {
        if (!hasImage) {
            return STATE;
        }
        table.become(kept);
        return table.size;
    }

    // ---- the host

    public int sheet(int s, int sort, int n) {
        if (!isSheet(s) || sort < MISSING || sort > INTS) {
            return BAD;
        }
        if (sort == MISSING) {
            sheets[s].become(MISSING, 0);
            return 1;
        }
        if (n > PLACES) {
            return BAD;
        }
        if (n < 0) {
            return BELOW;
        }
        sheets[s].become(sort, n);
        return 1;
    }

    public int cell(int s, int i, int v) {
        if (!isSheet(s)) {
            return BAD;
        }
        if (sheets[s].sort == MISSING) {
            return NOTHING;
        }
        if (!sheets[s].has(i)) {
            return OUTSIDE;
        }
        sheets[s].put(i, v);
        return 1;
    }

    public int copy(int s, int i, int other, int j, int n) {
        if (!isSheet(s) || !isSheet(other)) {
            return BAD;
        }
        if (sheets[s].sort == MISSING || sheets[other].sort == MISSING) {
            return NOTHING;
        }
        if (sheets[s].sort != sheets[other].sort) {
            return OTHER_SORT;
        }
        if (!sheets[s].hasAll(i, n) || !sheets[other].hasAll(j, n)) {
            return OUTSIDE;
        }
        System.arraycopy(sheets[s].numbers, i, sheets[other].numbers, j, n);
        return n;
    }

    public int cardsBy(int s, int sort, int at, int n) {
        if (!isSheet(s) || sort < 0 || sort > INTS || n < 0 || n > CARDS) {
            return BAD;
        }
        Sheet sheet = sheets[s];
        if (sheet.sort == MISSING) {
            return NOTHING;
        }
        if (sheet.sort != sort) {
            return OTHER_SORT;
        }
        int came = 0;
        for (int k = 0; k < n; k++) {
            if (!sheet.hasAll(at + 2 * k, 2)) {
                return OUTSIDE;
            }
            if (card(sheet.numbers[at + 2 * k], sheet.numbers[at + 2 * k + 1]) >= 0) {
                came++;
            }
        }
        return came;
    }

    public int taken(int i, int kind) {
        if (kind < 0 || kind > A_HEAP) {
            return TAKEN;
        }
        if (i < 0 || i >= CARDS + 2) {
            return TAKEN + OUTSIDE;
        }
        return i < 2 ? takenHeap(table.lying(i == 0 ? LEFT : RIGHT), kind) : takenCard(i - 2, kind);
    }

    // ---- what the calls share

    private static boolean isByte(int number) {
        return number >= 0 && number <= 255;
    }

    private static boolean isSheet(int s) {
        return s >= 0 && s < SHEETS;
    }

    private static boolean isSeed(int seed) {
        return seed >= 0 && seed <= MOST_SEED;
    }

    private static int bounded(int number, int least, int greatest) {
        return Math.max(least, Math.min(greatest, number));
    }

    /** The greatest number that divides both; greatest is at least 1. */
    private static int commonDivisor(int number, int greatest) {
        for (int divisor = greatest; divisor > 1; divisor--) {
            if (number % divisor == 0 && greatest % divisor == 0) {
                return divisor;
            }
        }
        return 1;
    }

    private Text law() {
        return texts[table.law];
    }

    /** What a part of a text says of a card, did it lie to the left (1) or not (0). */
    private int says(Text text, int part, int c, int left) {
        names[0] = table.numbers[c];
        names[1] = table.mores[c];
        names[2] = c;
        names[3] = table.size;
        names[4] = table.kinds[c];
        names[5] = left;
        int value = text.value(part, names);
        return part == COUNTING ? bounded(value, -999, 999) : bounded(value, 0, 99);
    }

    private int counted(Text text, int c, int left) {
        int said = says(text, COUNTING, c, left);
        switch (table.kinds[c]) {
            case TWICE: return 2 * said;
            case GREAT: return 2 * said + table.mores[c];
            case DEBT: return -said;
            case BLANK: return table.mores[c];
            default: return said;
        }
    }

    private int moving(int c) {
        int said = says(law(), MOVING, c, table.leftness(c));
        switch (table.kinds[c]) {
            case BOUND:
            case DEBT: return bounded(said + 3, 0, 999);
            case GREAT: return bounded(2 * said, 0, 999);
            case BLANK: return 0;
            default: return bounded(said, 0, 999);
        }
    }

    /** Tells the heaps how much each card counts by a text, as it lies now. */
    private void weigh(Text text) {
        for (int c = 0; c < table.size; c++) {
            heaps.counts[c] = counted(text, c, table.leftness(c));
        }
        heaps.all = (1 << table.size) - 1;
    }

    private void weighAll() {
        weigh(law());
        heaps.addUp(table.size);
    }

    /** What a card counts to the left and what it counts elsewhere, together: by so much it moves both sums. */
    private int countedBothWays(int c) {
        return counted(law(), c, 1) + counted(law(), c, 0);
    }

    private void findSwap() {
        weigh(law());
        int now = heaps.sumOf(table.lying(LEFT)) - heaps.sumOf(table.lying(RIGHT));
        int left = table.lying(LEFT) & table.mayLie(RIGHT);
        int right = table.lying(RIGHT) & table.mayLie(LEFT);
        found[0] = NONE;
        found[1] = Math.abs(now);
        for (int c = 0; c < table.size; c++) {
            for (int d = 0; d < table.size; d++) {
                if ((left >> c & 1) == 0 || (right >> d & 1) == 0) {
                    continue;
                }
                int far = Math.abs(now - countedBothWays(c) + countedBothWays(d));
                if (far < found[1]) {
                    found[0] = 10 * c + d;
                    found[1] = far;
                }
            }
        }
    }

    private void findMend(int most) {
        for (int c = 0; c < table.size; c++) {
            heaps.costs[c] = moving(c);
        }
        int now = table.lying(LEFT);
        int lying = now | table.lying(RIGHT);
        int notLeft = ~(lying & table.mayLie(LEFT));
        int notRight = ~table.mayLie(RIGHT);
        found[0] = NONE;
        found[1] = NONE;
        for (int left = 0; left <= heaps.all; left++) {
            int right = lying & ~left;
            boolean may = (left & notLeft) == 0 && (right & notRight) == 0;
            if (!may || Math.abs(heaps.sums[left] - heaps.sums[right]) > most) {
                continue;
            }
            int cost = heaps.costOf(left ^ now);
            if (found[0] == NONE || cost < found[0]) {
                found[0] = cost;
                found[1] = left;
            }
        }
    }

    /** Which cards lie to the left by a seed's lots. */
    private int drawLeft(int seed) {
        int left = 0;
        long lot = seed + 1L;
        for (int c = 0; c < table.size; c++) {
            lot = lot * 48271L % 2147483647L;
            int sides = table.sides(c);
            if (sides == LEFT || sides == BOTH_SIDES && lot % 2 == 0) {
                left |= 1 << c;
            }
        }
        return left;
    }

    /** 0, if a sheet tells rows of a heap and its sum; else what it is refused by. */
    private int refusalOfRows(int s) {
        if (!isSheet(s)) {
            return BAD;
        }
        Sheet sheet = sheets[s];
        if (sheet.sort == MISSING) {
            return NOTHING;
        }
        if (sheet.size % 2 != 0) {
            return BAD;
        }
        for (int i = 0; i < sheet.size; i += 2) {
            if (!table.isHeap(sheet.numbers[i])) {
                return BAD;
            }
        }
        return 0;
    }

    private int firstWrongRow(Sheet sheet) {
        for (int i = 0; i + 1 < sheet.size; i += 2) {
            if (heaps.sumOf(sheet.numbers[i]) != sheet.numbers[i + 1]) {
                return i / 2;
            }
        }
        return NONE;
    }

    /** By how much more of a card's count all rows would be so; NO, if by none, or if they are so. */
    private long missingOf(Sheet sheet, int c) {
        long missing = 0;
        boolean inOne = false;
        for (int i = 0; i + 1 < sheet.size; i += 2) {
            int heap = sheet.numbers[i];
            // A sheet may tell any int, so that its distance from a sum passes an int.
            long off = (long) sheet.numbers[i + 1] - heaps.sumOf(heap);
            boolean inIt = (heap >> c & 1) == 1;
            if (!inIt && off != 0 || inIt && inOne && off != missing) {
                return NO;
            }
            if (inIt) {
                missing = off;
                inOne = true;
            }
        }
        return missing == 0 ? NO : missing;
    }

    private int takenHeap(int heap, int kind) {
        if (heap == 0) {
            return TAKEN + NOTHING;
        }
        if (kind != A_HEAP) {
            return TAKEN + OTHER_SORT;
        }
        weigh(law());
        return heaps.sumOf(heap);
    }

    private int takenCard(int c, int kind) {
        if (!table.has(c)) {
            return TAKEN + NOTHING;
        }
        int is = table.kinds[c];
        for (int i = 0; i < KINDS && is >= 0; i++) {
            if (is == kind) {
                return c;
            }
            is = KIND_ABOVE[is];
        }
        return TAKEN + OTHER_SORT;
    }

    /** The cards, where they lie, and which text is the law: all that an image keeps. */
    private static final class Table {
        final int[] kinds = new int[CARDS];
        final int[] numbers = new int[CARDS];
        final int[] mores = new int[CARDS];
        final int[] places = new int[CARDS];
        int size;
        int law;

        boolean has(int c) {
            return c >= 0 && c < size;
        }

        boolean isHeap(int set) {
            return set >= 0 && set < 1 << size;
        }

        int append(int kind, int more, int number) {
            if (size >= CARDS) {
                return FULL;
            }
            kinds[size] = kind;
            mores[size] = more;
            numbers[size] = number;
            places[size] = ASIDE;
            size++;
            return size - 1;
        }

        int sides(int c) {
            return kinds[c] == BOUND || kinds[c] == DEBT ? mores[c] % 2 + 1 : BOTH_SIDES;
        }

        int leftness(int c) {
            return places[c] == LEFT ? 1 : 0;
        }

        int lying(int place) {
            int cards = 0;
            for (int c = 0; c < size; c++) {
                if (places[c] == place) {
                    cards |= 1 << c;
                }
            }
            return cards;
        }

        int mayLie(int side) {
            int cards = 0;
            for (int c = 0; c < size; c++) {
                if ((sides(c) & side) != 0) {
                    cards |= 1 << c;
                }
            }
            return cards;
        }

        void become(Table other) {
            for (int c = 0; c < other.size; c++) {
                kinds[c] = other.kinds[c];
                numbers[c] = other.numbers[c];
                mores[c] = other.mores[c];
                places[c] = other.places[c];
            }
            size = other.size;
            law = other.law;
        }
    }

    /** A row of numbers of a sort, or a missing one; kept as ints that fit its sort. */
    private static final class Sheet {
        final int[] numbers = new int[PLACES];
        int sort = MISSING;
        int size;

        boolean has(int i) {
            return i >= 0 && i < size;
        }

        boolean hasAll(int i, int n) {
            return i >= 0 && n >= 0 && n <= size && i <= size - n;
        }

        void become(int newSort, int newSize) {
            sort = newSort;
            size = newSize;
            for (int i = 0; i < size && i < PLACES; i++) {
                numbers[i] = 0;
            }
        }

        void put(int i, int v) {
            if (has(i)) {
                numbers[i] = sort == 0 ? (byte) v : sort == 1 ? (short) v : v;
            }
        }
    }

    /** A text as steps for a stack of numbers, its three parts one behind the other. */
    private static final class Text {
        // Of each of six levels of brackets at most five numbers wait for their other side.
        private static final int WAITING = 40;
        final int[] steps = new int[BYTES];
        final int[] ends = new int[PARTS];
        final int[] stack = new int[WAITING];
        int size;

        /** counts number ; moves 1 ; asks 1 ; */
        void becomeFirst() {
            size = 0;
            append(-1);
            endPart(COUNTING);
            append(1);
            endPart(MOVING);
            append(1);
            endPart(ASKING);
        }

        void append(int step) {
            if (size < BYTES) {
                steps[size] = step;
                size++;
            }
        }

        void endPart(int part) {
            ends[part] = size;
        }

        int value(int part, int[] names) {
            int top = 0;
            for (int i = part == 0 ? 0 : ends[part - 1]; i < ends[part]; i++) {
                int step = steps[i];
                if (step >= -NAMES) {
                    if (top < WAITING) {
                        stack[top] = step >= 0 ? step : names[-1 - step];
                        top++;
                    }
                } else if (step >= DENY) {
                    if (top >= 1) {
                        stack[top - 1] = step == NEGATE ? -stack[top - 1] : stack[top - 1] == 0 ? 1 : 0;
                    }
                } else if (top >= 2) {
                    top--;
                    stack[top - 1] = joined(step, stack[top - 1], stack[top]);
                }
            }
            return stack[0];
        }

        private static int joined(int step, int a, int b) {
            switch (step) {
                case TIMES: return a * b;
                case PLUS: return a + b;
                case LESS_BY: return a - b;
                case BELOW_IT: return a < b ? 1 : 0;
                case SAME: return a == b ? 1 : 0;
                case BOTH: return a != 0 && b != 0 ? 1 : 0;
                default: return a != 0 || b != 0 ? 1 : 0;
            }
        }
    }

    /** The tape, and how it is read as a text: a method for each rule, the first fault ends all. */
    private static final class Tape {
        private static final int OPEN = 5, DIGITS = 4;
        // Tokens; a sign is its own byte, all of which are above these.
        private static final int END = 0, WRONG = 1, VALUE = 2, OR = 3, AND = 4, NOT = 5;
        private static final int COUNTS = 6, MOVES = 7, ASKS = 8;
        final int[] bytes = new int[BYTES];
        int size;
        private Text target;
        private int token;
        private int step;
        private int at;
        private int behind;
        private int fault;

        void append(int number) {
            if (size < BYTES) {
                bytes[size] = number;
                size++;
            }
        }

        /** Where the fault is; -1, if there is none. */
        int readInto(Text empty) {
            target = empty;
            target.size = 0;
            fault = NONE;
            behind = 0;
            advance();
            for (int part = 0; part < PARTS; part++) {
                expect(COUNTS + part);
                either(0);
                expect(';');
                target.endPart(part);
            }
            expect(END);
            return fault;
        }

        private void refuse() {
            if (fault == NONE) {
                fault = at;
            }
        }

        private void expect(int wanted) {
            if (fault == NONE && token == wanted) {
                advance();
            } else {
                refuse();
            }
        }

        private boolean isNow(int wanted) {
            return fault == NONE && token == wanted;
        }

        private void either(int open) {
            both(open);
            for (int i = 0; i < BYTES && isNow(OR); i++) {
                advance();
                both(open);
                target.append(EITHER);
            }
        }

        private void both(int open) {
            denied(open);
            for (int i = 0; i < BYTES && isNow(AND); i++) {
                advance();
                denied(open);
                target.append(BOTH);
            }
        }

        private void denied(int open) {
            if (!isNow(NOT)) {
                compared(open);
            } else if (open >= OPEN) {
                refuse();
            } else {
                advance();
                denied(open + 1);
                target.append(DENY);
            }
        }

        private void compared(int open) {
            sum(open);
            if (isNow('<') || isNow('=')) {
                int how = token == '<' ? BELOW_IT : SAME;
                advance();
                sum(open);
                target.append(how);
            }
        }

        private void sum(int open) {
            term(open);
            for (int i = 0; i < BYTES && (isNow('+') || isNow('-')); i++) {
                int how = token == '+' ? PLUS : LESS_BY;
                advance();
                term(open);
                target.append(how);
            }
        }

        private void term(int open) {
            one(open);
            for (int i = 0; i < BYTES && isNow('*'); i++) {
                advance();
                one(open);
                target.append(TIMES);
            }
        }

        private void one(int open) {
            if (isNow(VALUE)) {
                target.append(step);
                advance();
            } else if (isNow('-') && open < OPEN) {
                advance();
                one(open + 1);
                target.append(NEGATE);
            } else if (isNow('(') && open < OPEN) {
                advance();
                either(open + 1);
                expect(')');
            } else {
                refuse();
            }
        }

        private int byteAt(int place) {
            return place >= 0 && place < size && place < BYTES ? bytes[place] : -1;
        }

        /** Goes on to the next token: where it stands, which it is. */
        private void advance() {
            at = behind;
            for (int i = 0; i < BYTES && (byteAt(at) == ' ' || byteAt(at) == '\n'); i++) {
                at++;
            }
            int first = byteAt(at);
            behind = at + 1;
            if (first < 0) {
                behind = at;
                token = END;
            } else if (first >= '0' && first <= '9') {
                behind = endOf('0', '9');
                readNumber();
            } else if (first >= 'a' && first <= 'z') {
                behind = endOf('a', 'z');
                readWord();
            } else {
                token = isSign(first) ? first : WRONG;
            }
        }

        private static boolean isSign(int number) {
            return number >= '(' && number <= '+' || number == '-' || number >= ';' && number <= '=';
        }

        private int endOf(int least, int greatest) {
            int end = at;
            for (int i = 0; i < BYTES && byteAt(end) >= least && byteAt(end) <= greatest; i++) {
                end++;
            }
            return end;
        }

        private void readNumber() {
            token = behind - at > DIGITS ? WRONG : VALUE;
            step = 0;
            for (int i = at; i < behind && token == VALUE; i++) {
                step = 10 * step + byteAt(i) - '0';
            }
        }

        private void readWord() {
            step = isWord("number") ? -1 : isWord("more") ? -2 : isWord("card") ? -3
                : isWord("many") ? -4 : isWord("kind") ? -5 : isWord("left") ? -6 : 0;
            token = step < 0 ? VALUE : isWord("counts") ? COUNTS : isWord("moves") ? MOVES : isWord("asks") ? ASKS
                : isWord("or") ? OR : isWord("and") ? AND : isWord("not") ? NOT : WRONG;
        }

        private boolean isWord(String word) {
            if (behind - at != word.length() || behind > size) {
                return false;
            }
            for (int i = 0; i < word.length(); i++) {
                if (bytes[at + i] != word.charAt(i)) {
                    return false;
                }
            }
            return true;
        }
    }

    /** All heaps of the cards by how much each counts, and what is searched among them. */
    private static final class Heaps {
        static final int CANDIDATES = 12;
        private static final int MOST_NEXT = 999;
        final int[] counts = new int[CARDS];
        final int[] costs = new int[CARDS];
        final int[] sums = new int[HEAPS];
        int all;
        private final int[] squares = new int[HEAPS];
        private final int[] ordered = new int[HEAPS];
        private final int[] merged = new int[HEAPS];
        private final boolean[] near = new boolean[MOST_NEXT + 1];
        private final int[] candidates = new int[CANDIDATES];
        private final int[] holders = new int[CARDS];
        private final int[] worst = new int[1 << CANDIDATES];

        int sumOf(int heap) {
            int sum = 0;
            for (int c = 0; c < CARDS; c++) {
                sum += (heap >> c & 1) * counts[c];
            }
            return sum;
        }

        int squaresOf(int heap) {
            int sum = 0;
            for (int c = 0; c < CARDS; c++) {
                sum += (heap >> c & 1) * counts[c] * counts[c];
            }
            return sum;
        }

        int costOf(int heap) {
            int sum = 0;
            for (int c = 0; c < CARDS; c++) {
                sum += (heap >> c & 1) * costs[c];
            }
            return sum;
        }

        /** How far the heap and that of all other cards are apart. */
        int apartBy(int left) {
            return Math.abs(sumOf(left) - sumOf(all & ~left));
        }

        /** Fills the rows of all sums and squares: each heap's by that of the heap without its greatest card. */
        void addUp(int cards) {
            sums[0] = 0;
            squares[0] = 0;
            for (int c = 0; c < cards && c < CARDS; c++) {
                int bit = 1 << c;
                for (int heap = 0; heap < bit; heap++) {
                    sums[heap | bit] = sums[heap] + counts[c];
                    squares[heap | bit] = squares[heap] + counts[c] * counts[c];
                }
            }
        }

        /** The next heap among the cards of a set; 0 behind the last one. */
        private static int following(int heap, int set) {
            return (heap - set) & set;
        }

        void findPairs(int sort, int leftMay, int rightMay, int[] found) {
            found[0] = 0;
            found[1] = NONE;
            found[2] = NONE;
            found[3] = 0;
            for (int left = 1; left <= all; left++) {
                int others = rightMay & ~left;
                int right = (left & ~leftMay) == 0 ? following(0, others) : 0;
                for (int i = 0; i < HEAPS && right != 0; i++) {
                    if (sums[left] == sums[right] && isOfSort(sort, left, right)) {
                        addPair(left, right, found);
                    }
                    right = following(right, others);
                }
            }
        }

        private boolean isOfSort(int sort, int left, int right) {
            return sort == 0
                || sort == 1 && Integer.bitCount(left) == Integer.bitCount(right)
                || sort == 2 && squares[left] == squares[right];
        }

        private static void addPair(int left, int right, int[] found) {
            found[0]++;
            if (found[0] == 1) {
                found[1] = left;
                found[2] = right;
            }
            found[3] = Math.max(found[3], Integer.bitCount(left | right));
        }

        void findThrees(boolean firstOnly, int[] found) {
            found[0] = 0;
            found[1] = NONE;
            found[2] = NONE;
            found[3] = NONE;
            for (int first = 1; first <= all; first++) {
                int others = all & ~first;
                int second = following(0, others);
                for (int i = 0; i < HEAPS && second != 0; i++) {
                    if (second > first && sums[second] == sums[first]) {
                        addThrees(first, second, found);
                    }
                    if (firstOnly && found[0] > 0) {
                        return;
                    }
                    second = following(second, others);
                }
            }
        }

        private void addThrees(int first, int second, int[] found) {
            int others = all & ~(first | second);
            int third = following(0, others);
            for (int i = 0; i < HEAPS && third != 0; i++) {
                if (third > second && sums[third] == sums[first]) {
                    found[0]++;
                    if (found[0] == 1) {
                        found[1] = first;
                        found[2] = second;
                        found[3] = third;
                    }
                }
                third = following(third, others);
            }
        }

        void findFair(boolean asMany, int leftMay, int rightMay, int[] found) {
            found[0] = NONE;
            found[1] = NONE;
            for (int left = 0; left <= all; left++) {
                int right = all & ~left;
                boolean may = (left & ~leftMay) == 0 && (right & ~rightMay) == 0;
                if (!may || asMany && Integer.bitCount(left) != Integer.bitCount(right)) {
                    continue;
                }
                int far = Math.abs(sums[left] - sums[right]);
                if (found[1] == NONE || far < found[1]) {
                    found[0] = left;
                    found[1] = far;
                }
            }
        }

        void findThirds(int[] found) {
            found[2] = NONE;
            for (int first = 0; first <= all; first++) {
                int others = all & ~first;
                int second = 0;
                for (int i = 0; i < HEAPS; i++) {
                    int far = farAmong(sums[first], sums[second], sums[others & ~second]);
                    if (found[2] == NONE || far < found[2]) {
                        found[0] = first;
                        found[1] = second;
                        found[2] = far;
                    }
                    second = following(second, others);
                    if (second == 0) {
                        break;
                    }
                }
            }
        }

        private static int farAmong(int a, int b, int c) {
            return Math.max(a, Math.max(b, c)) - Math.min(a, Math.min(b, c));
        }

        /** Orders all heaps by their sums, those of one sum as bits. */
        private void order() {
            ordered[0] = 0;
            for (int c = 0; c < CARDS && 1 << c <= all; c++) {
                int bit = 1 << c;
                merge(bit);
                for (int i = 0; i < 2 * bit; i++) {
                    ordered[i] = merged[i];
                }
            }
        }

        /** Merges the heaps ordered so far (as many as the bit says) with the same ones with one card more. */
        private void merge(int bit) {
            int without = 0;
            int with = 0;
            for (int i = 0; i < 2 * bit; i++) {
                boolean takesWithout = with >= bit
                    || without < bit && sums[ordered[without]] <= sums[ordered[with] | bit];
                if (takesWithout) {
                    merged[i] = ordered[without];
                    without++;
                } else {
                    merged[i] = ordered[with] | bit;
                    with++;
                }
            }
        }

        int unlikeSums() {
            order();
            int unlikeOnes = 1;
            for (int i = 1; i <= all; i++) {
                if (sums[ordered[i]] != sums[ordered[i - 1]]) {
                    unlikeOnes++;
                }
            }
            return unlikeOnes;
        }

        /** One card more makes two sums alike, if it counts how far two sums are apart. */
        int nextNumber() {
            for (int i = 0; i <= MOST_NEXT; i++) {
                near[i] = false;
            }
            // Two heaps are as far apart as they are without the cards in both.
            for (int heap = 1; heap <= all; heap++) {
                int others = all & ~heap;
                int other = 0;
                for (int i = 0; i < HEAPS; i++) {
                    int far = Math.abs(sums[heap] - sums[other]);
                    if (far == 0) {
                        return NONE;
                    }
                    if (far <= MOST_NEXT) {
                        near[far] = true;
                    }
                    other = following(other, others);
                    if (other == 0) {
                        break;
                    }
                }
            }
            for (int number = 1; number <= MOST_NEXT; number++) {
                if (!near[number]) {
                    return number;
                }
            }
            return NONE;
        }

        int having(int sum) {
            int heapsOfIt = 0;
            for (int heap = 0; heap <= all; heap++) {
                if (sums[heap] == sum) {
                    heapsOfIt++;
                }
            }
            return heapsOfIt;
        }

        void findKey(int sum, int[] found) {
            found[0] = 0;
            found[1] = NONE;
            int inAll = all;
            int inSome = 0;
            for (int heap = 0; heap <= all; heap++) {
                if (sums[heap] == sum) {
                    found[0]++;
                    found[1] = found[0] == 1 ? heap : found[1];
                    inAll &= heap;
                    inSome |= heap;
                }
            }
            found[2] = found[0] == 0 ? 0 : inAll;
            found[3] = found[0] == 0 ? 0 : all & ~inSome;
        }

        void findPigeon(int[] found) {
            order();
            found[0] = NONE;
            found[1] = NONE;
            found[2] = 0;
            for (int i = 1; i <= all; i++) {
                int heap = ordered[i - 1];
                if (sums[heap] == sums[ordered[i]] && (found[0] == NONE || heap < found[0])) {
                    found[0] = heap;
                    found[1] = ordered[i];
                    found[2] = heap & ordered[i];
                }
            }
        }

        /** Gathers the heaps of a sum, as far as there is room: how many there are. */
        int gather(int sum) {
            int gathered = 0;
            for (int heap = 0; heap <= all; heap++) {
                if (sums[heap] == sum) {
                    if (gathered < CANDIDATES) {
                        candidates[gathered] = heap;
                    }
                    gathered++;
                }
            }
            return gathered;
        }

        /** By costs of the cards: what the best questions cost at worst, from the smallest sets of heaps on. */
        void findQuestion(int many, int[] found) {
            for (int c = 0; c < CARDS; c++) {
                holders[c] = 0;
                for (int i = 0; i < many && i < CANDIDATES; i++) {
                    holders[c] |= (candidates[i] >> c & 1) << i;
                }
            }
            found[0] = 0;
            found[1] = NONE;
            worst[0] = 0;
            for (int set = 1; set < 1 << many && set < worst.length; set++) {
                ask(set, found);
                worst[set] = found[0];
            }
        }

        /** Which card is asked for first among a set of candidates, and what that costs. */
        private void ask(int set, int[] found) {
            found[0] = 0;
            found[1] = NONE;
            for (int c = 0; c < CARDS; c++) {
                int with = set & holders[c];
                if (with == 0 || with == set) {
                    continue;
                }
                int cost = costs[c] + Math.max(worst[with], worst[set & ~with]);
                if (found[1] == NONE || cost < found[0]) {
                    found[0] = cost;
                    found[1] = c;
                }
            }
        }
    }
}
