import java.lang.reflect.Method;
import java.util.ArrayList;
import java.util.Arrays;
import java.util.LinkedHashMap;
import java.util.List;
import java.util.Map;
import java.util.Set;
import java.util.SplittableRandom;

/** Long runs of calls, the same ones each time, on the program and on the oracle. */
public final class OracleTest {
    private static final int MOST_CALLS = 512;

    /** For each call the ranges of its arguments, least and greatest; a little outside is tried as well. */
    private static final Map<String, int[]> RANGES = new LinkedHashMap<>();
    private static final Map<String, Method> PROGRAM = new LinkedHashMap<>();
    private static final Map<String, Method> ORACLE = new LinkedHashMap<>();

    private static void range(String name, int... leastAndGreatest) {
        RANGES.put(name, leastAndGreatest);
    }

    static {
        range("count", 0, 5);
        range("feed", 1, 5, 0, 255, 0, 255, 0, 255, 0, 255, 0, 255);
        range("text");
        range("force", 0, 5);
        range("asks", 0, 2, 0, 9, 0, 1);
        range("card", 0, 59, 0, 999);
        range("drop");
        range("lay", 0, 9, 0, 2);
        range("told", 0, 9, 0, 6);
        range("heap", 0, 1023, 0, 2);
        range("apart");
        range("must");
        range("alike", 0, 2, 0, 3);
        range("three", 0, 3);
        range("fair", 0, 1, 0, 1);
        range("thirds", 0, 2);
        range("swap", 0, 1);
        range("mend", 0, 9999, 0, 1);
        range("unlike", 0, 1);
        range("next");
        range("spread");
        range("key", -40, 60, 0, 3);
        range("pigeon", 0, 2);
        range("question", -40, 60, 0, 1);
        range("judge", 0, 3);
        range("blame", 0, 3);
        range("more", 0, 3, 0, 9);
        range("laws", 0, 3);
        range("film", 0, 3, 0, 1023, 0, 20);
        range("seen", 0, 3, 0, 1);
        range("drawn", 0, 99999, 0, 1);
        range("deal", 0, 99999);
        range("odds", 0, 99999, 1, 40, 0, 9999, 0, 1);
        range("image");
        range("back");
        range("sheet", 0, 3, -1, 2, 0, 40);
        range("cell", 0, 3, 0, 39, -300, 1100);
        range("copy", 0, 3, 0, 39, 0, 3, 0, 39, 0, 40);
        range("cardsBy", 0, 3, 0, 2, 0, 39, 0, 10);
        range("taken", 0, 11, 0, 6);
        for (Method m : TwoHeapsAlike.class.getDeclaredMethods()) {
            if (RANGES.containsKey(m.getName())) {
                PROGRAM.put(m.getName(), m);
            }
        }
        for (Method m : Oracle.class.getDeclaredMethods()) {
            if (RANGES.containsKey(m.getName()) && m.getParameterCount() * 2 == RANGES.get(m.getName()).length) {
                ORACLE.put(m.getName(), m);
            }
        }
    }

    private final int run;
    private final SplittableRandom random;
    private final TwoHeapsAlike program = new TwoHeapsAlike();
    private final Oracle oracle = new Oracle();
    private final List<String> log = new ArrayList<>();
    private final int mostCards;
    private final int mostTold;
    private int calls;

    private OracleTest(int run) {
        this.run = run;
        random = new SplittableRandom(run);
        mostCards = run % 10 == 0 ? 10 : 1 + run % 7;
        mostTold = new int[] {3, 12, 12, 60, 999}[run % 5];
    }

    private int between(int least, int greatest) {
        return least + random.nextInt(greatest - least + 1);
    }

    private boolean oneIn(int n) {
        return random.nextInt(n) == 0;
    }

    private long call(String name, int... args) throws Exception {
        Object[] boxed = Arrays.stream(args).boxed().toArray();
        calls++;
        long got = ((Number) PROGRAM.get(name).invoke(program, boxed)).longValue();
        long want = ((Number) ORACLE.get(name).invoke(oracle, boxed)).longValue();
        String row = name + Arrays.toString(args);
        log.add(row + " = " + got);
        if (got != want) {
            log.forEach(line -> System.out.println("  " + line));
            System.out.println("run " + run + ": " + row + " answered " + got + ", the oracle " + want);
            System.exit(1);
        }
        return got;
    }

    // ---- texts

    private String expression(int depth) {
        if (depth <= 0 || oneIn(4)) {
            String[] atoms = {"number", "more", "card", "many", "kind", "left", "" + between(0, 12), "0010", "9999"};
            return atoms[random.nextInt(atoms.length)];
        }
        String[] joins = {" or ", " and ", "<", "=", "+", "-", "*", " + ", " * ", "\n-"};
        switch (between(0, 5)) {
            case 0: return "(" + expression(depth - 1) + ")";
            case 1: return "not " + expression(depth - 1);
            case 2: return "-" + expression(depth - 1);
            default: return expression(depth - 1) + joins[random.nextInt(joins.length)] + expression(depth - 1);
        }
    }

    /** Mostly plain ones; some so deep that too much is open, or that the tape has no room for them. */
    private int depth() {
        return oneIn(6) ? between(4, 8) : between(0, 3);
    }

    private String words() {
        String text = "counts " + expression(depth()) + ";moves " + expression(depth())
            + "; asks " + expression(depth()) + " ;" + (oneIn(3) ? "\n " : "");
        if (oneIn(4)) {
            int at = random.nextInt(text.length() + 1);
            String[] odd = {"(", ")", "not ", "-", "x", "12345", "$", ";", " ", "counts", "<", "\t", "é"};
            text = text.substring(0, at) + odd[random.nextInt(odd.length)]
                + text.substring(oneIn(2) ? at : Math.min(at + 1, text.length()));
        }
        return oneIn(10) ? text.substring(0, random.nextInt(text.length())) : text;
    }

    private void writeText() throws Exception {
        String text = words();
        for (int i = 0; i < text.length() && calls < MOST_CALLS; i += 5) {
            int[] args = new int[6];
            args[0] = Math.min(5, text.length() - i);
            for (int k = 0; k < args[0]; k++) {
                args[k + 1] = text.charAt(i + k);
            }
            call("feed", args);
        }
        long t = call("text");
        if (t >= 0 && oneIn(2)) {
            call("force", (int) t);
        }
    }

    // ---- calls

    private int argument(int least, int greatest) {
        if (oneIn(40)) {
            int[] far = {least - 1, greatest + 1, -1, Integer.MIN_VALUE, Integer.MAX_VALUE};
            return far[random.nextInt(far.length)];
        }
        return oneIn(4) ? least : between(least, greatest);
    }

    private void anyCall() throws Exception {
        String[] names = RANGES.keySet().toArray(new String[0]);
        String name = names[random.nextInt(names.length)];
        int cards = (int) call("count", 0);
        boolean dear = name.equals("three") || name.equals("thirds") || name.equals("next") || name.equals("alike");
        if (dear && cards > 7 && !oneIn(8)) {
            return;
        }
        int[] ranges = RANGES.get(name);
        int[] args = new int[ranges.length / 2];
        for (int i = 0; i < args.length; i++) {
            int greatest = ranges[2 * i + 1];
            // Cards and heaps that there are, places that there are: else most calls would be refused.
            greatest = greatest == 9 ? Math.max(0, cards - 1) : greatest == 1023 ? (1 << cards) - 1 : greatest;
            greatest = greatest == 39 || greatest == 40 && name.equals("copy") ? between(0, 8) : greatest;
            greatest = greatest == 999 ? mostTold : greatest == 9999 && !oneIn(3) ? 40 : greatest;
            args[i] = argument(ranges[2 * i], greatest);
        }
        if (name.equals("drop") && !oneIn(4) || name.equals("card") && cards >= mostCards && cards < 10) {
            return;
        }
        call(name, args);
    }

    /** Rows that are so by some text, one of them perhaps not: random rows would hardly ever be so. */
    private void tellRows() throws Exception {
        int s = between(0, 3);
        int cards = (int) call("count", 0);
        int from = between(0, (1 << cards) - 1);
        int rows = (int) call("film", s, from, between(0, 8));
        int by = oneIn(2) ? 0 : between(-3, 3);
        int blamed = between(0, Math.max(0, cards - 1));
        for (int row = 0; row < rows; row++) {
            int heap = from + row;
            call("cell", s, 2 * row + 1, (int) call("heap", heap, 0) + (heap >> blamed & 1) * by);
        }
        if (rows > 0 && oneIn(4)) {
            call("cell", s, 2 * between(0, rows - 1) + 1, between(-20, 40));
        }
        call("judge", s);
        call("blame", s);
        call("more", s, between(0, Math.max(0, cards - 1)));
        call("laws", s);
        call("seen", s, between(0, 1));
    }

    private void go() throws Exception {
        for (int i = between(0, mostCards); i > 0; i--) {
            call("card", between(0, 59), between(0, mostTold));
        }
        for (int i = 0; i < 2; i++) {
            if (oneIn(2)) {
                writeText();
            }
        }
        while (calls < MOST_CALLS - 40) {
            if (oneIn(60)) {
                writeText();
            } else if (oneIn(50)) {
                tellRows();
            } else {
                anyCall();
            }
        }
    }

    // ---- bounds

    /** How far an argument goes on this object: as many CARDS, HEAPS, places as there are. */
    private int greatestNow(String name, int greatest, int cards) {
        return greatest == 9 ? cards - 1 : greatest == 1023 ? (1 << cards) - 1
            : greatest == 39 || greatest == 40 && !name.equals("odds") ? 4 : greatest;
    }

    private int[] bounds(String name, int i, int cards) {
        int least = RANGES.get(name)[2 * i];
        int greatest = RANGES.get(name)[2 * i + 1];
        int now = greatestNow(name, greatest, cards);
        return new int[] {least, least + 1, least - 1, greatest - 1, greatest, greatest + 1, now, now + 1, now - 1,
            Integer.MIN_VALUE, Integer.MAX_VALUE};
    }

    /** CARDS of all KINDS on all SIDES, a law, an IMAGE, SHEETS of every sort. */
    private void prepare(int cards) throws Exception {
        for (int c = 0; c < cards; c++) {
            call("card", 10 * between(0, 5) + between(0, 9), between(0, 9));
            call("lay", c, between(0, 2));
        }
        writeText();
        call("image");
        call("film", 0, 0, 2);
        call("sheet", 1, 0, 4);
        call("sheet", 2, 1, 5);
    }

    /** Calls with every two of their arguments at bounds, on objects with so many CARDS. */
    private static long tryBounds(int cards) throws Exception {
        OracleTest test = new OracleTest(cards);
        test.prepare(cards);
        long calls = 0;
        for (String name : RANGES.keySet()) {
            int parameters = RANGES.get(name).length / 2;
            boolean dear = Set.of("three", "thirds", "alike", "next").contains(name);
            for (int i = 0; i < parameters && !(dear && cards > 7); i++) {
                for (int j = i; j < parameters; j++) {
                    for (int a : test.bounds(name, i, cards)) {
                        for (int b : test.bounds(name, j, cards)) {
                            if (test.calls >= MOST_CALLS - 1) {
                                test = new OracleTest(cards + (int) calls);
                                test.prepare(cards);
                            }
                            test.callAt(name, i, a, j, b);
                            calls++;
                        }
                    }
                }
            }
        }
        return calls;
    }

    private void callAt(String name, int i, int a, int j, int b) throws Exception {
        int[] ranges = RANGES.get(name);
        int cards = (int) call("count", 0);
        int[] args = new int[ranges.length / 2];
        for (int k = 0; k < args.length; k++) {
            int least = ranges[2 * k];
            args[k] = between(least, Math.max(least, Math.min(5, greatestNow(name, ranges[2 * k + 1], cards))));
        }
        args[i] = a;
        args[j] = b;
        call(name, args);
    }

    public static void main(String[] args) throws Exception {
        int runs = args.length > 0 ? Integer.parseInt(args[0]) : 300;
        if (PROGRAM.size() != RANGES.size() || ORACLE.size() != RANGES.size()) {
            System.out.println("a call is missing in the program or in the oracle");
            System.exit(1);
        }
        long calls = 0;
        for (int run = 1; run <= runs; run++) {
            OracleTest test = new OracleTest(run);
            test.go();
            calls += test.calls;
        }
        System.out.println("OracleTest: " + calls + " calls in " + runs + " runs are as the oracle's");
        System.out.println("OracleTest: " + (tryBounds(0) + tryBounds(1) + tryBounds(4) + tryBounds(10))
            + " calls at bounds are as the oracle's");
    }
}
