/** Promises 32 to 36: drawn, deal, odds, image, back. */
public final class LotTest {
    private static final int MIN = Integer.MIN_VALUE, MAX = Integer.MAX_VALUE;
    private static Check check;

    private static void due(String call, long got, long want) {
        check.due(call, got, want);
    }

    /** LOTS as the terms tell them, in a way of the tests' own. */
    private static int left(int seed, int cards) {
        java.math.BigInteger lot = java.math.BigInteger.valueOf(seed + 1L);
        int left = 0;
        for (int c = 0; c < cards; c++) {
            lot = lot.multiply(java.math.BigInteger.valueOf(48271)).mod(java.math.BigInteger.valueOf(2147483647));
            left |= lot.testBit(0) ? 0 : 1 << c;
        }
        return left;
    }

    /** 5 and 3, each of which COUNTS 50 more to the LEFT. */
    private static TwoHeapsAlike leftCounts() {
        TwoHeapsAlike x = Given.cards(5, 3);
        Given.law(x, "counts number + 50 * left; moves 1; asks 1;");
        return x;
    }

    private static void promise32() {
        check.section("32");
        check.says("DRAWN: what 0 what lies to the LEFT,");
        TwoHeapsAlike x = Given.cards(1, 2, 4, 8, 16, 32, 64, 128, 256, 512);
        int[] seeds = {0, 1, 2, 3, 7, 99, 31337, 99998, 99999};
        for (int seed : seeds) {
            due("drawn(" + seed + ", 0)", x.drawn(seed, 0), left(seed, 10));
        }
        // 1 * 48271 is odd, 48271 * 48271 modulo 2147483647 is 182605794, even.
        due("by hand", Given.cards(1, 1).drawn(0, 0), 2);
        x = Given.kinds(0, 1, 20, 1, 21, 1, 0, 1, 40, 1, 41, 1);
        due("others as they MAY", x.drawn(7, 0), left(7, 6) & 9 | 2 | 16);
        due("of a new object", new TwoHeapsAlike().drawn(5, 0), 0);
        due("nothing lies so", x.count(1) + x.count(2), 0);
        check.says("1 how far SUMS (of CARDS as they lie now) of both HEAPS are APART.");
        x = Given.cards(1, 2, 4, 8, 16, 32, 64, 128, 256, 512);
        for (int seed : seeds) {
            due("drawn(" + seed + ", 1)", x.drawn(seed, 1), Math.abs(2 * left(seed, 10) - 1023));
        }
        due("of a new object", new TwoHeapsAlike().drawn(5, 1), 0);
        x = leftCounts();
        due("all ASIDE", x.drawn(0, 1), 2);
        x.lay(0, 1);
        due("one to the LEFT", x.drawn(0, 1), 52);
        x.lay(0, 2);
        due("one to the RIGHT", x.drawn(0, 1), 2);
        check.says("BAD.");
        for (int seed : new int[] {-1, 100000, MIN, MAX}) {
            due("drawn(" + seed + ", 0)", x.drawn(seed, 0), -2);
        }
        for (int what : new int[] {-1, 2, MIN, MAX}) {
            due("drawn(0, " + what + ")", x.drawn(0, what), -2);
        }
    }

    private static void promise33() {
        check.section("33");
        check.says("All CARDS truly lie so:");
        for (int seed : new int[] {0, 4, 99999}) {
            TwoHeapsAlike x = Given.cards(5, 3, 9, 1);
            x.lay(3, 1);
            x.lay(2, 2);
            x.deal(seed);
            due("deal(" + seed + "): LEFT", x.count(1), left(seed, 4));
            due("deal(" + seed + "): RIGHT", x.count(2), 15 - left(seed, 4));
        }
        TwoHeapsAlike x = Given.kinds(20, 5, 21, 5, 40, 5, 41, 5);
        x.deal(0);
        due("as they MAY: LEFT", x.count(1), 5);
        due("as they MAY: RIGHT", x.count(2), 10);
        x = Given.cards(1, 1, 1, 1, 1, 1, 1, 1, 1, 1);
        x.deal(31337);
        due("ten CARDS: LEFT", x.count(1), left(31337, 10));
        due("ten CARDS: RIGHT", x.count(2), 1023 - left(31337, 10));
        check.says("how far both HEAPS are APART then.");
        x = Given.cards(5, 3, 9);
        int far = x.drawn(4, 1);
        due("as drawn, where it doesn't matter", x.deal(4), far);
        due("by hand: 5 to the RIGHT", Given.cards(5, 3).deal(0), 2);
        x = leftCounts();
        due("3 and 50 more to the LEFT", x.deal(0), 48);
        due("as it is", x.apart(), 48);
        due("again", x.deal(0), 48);
        due("of a new object", new TwoHeapsAlike().deal(99999), 0);
        check.says("BAD.");
        for (int seed : new int[] {-1, 100000, MIN, MAX}) {
            x = Given.cards(5, 3, 9);
            due("deal(" + seed + ")", x.deal(seed), -2);
            due("nothing lies so", x.count(1) + x.count(2), 0);
        }
    }

    private static void odds(String of, TwoHeapsAlike x, int seed, int seeds, int most, int above, int below) {
        String call = of + ": odds(" + seed + ", " + seeds + ", " + most + ", ";
        due(call + "0)", x.odds(seed, seeds, most, 0), above);
        due(call + "1)", x.odds(seed, seeds, most, 1), below);
    }

    private static void oddsOf(String of, TwoHeapsAlike x, int seed, int seeds, int most, int near) {
        int divisor = java.math.BigInteger.valueOf(near).gcd(java.math.BigInteger.valueOf(seeds)).intValue();
        odds(of, x, seed, seeds, most, near / divisor, seeds / divisor);
    }

    /** What is due by drawn(), seed by seed. */
    private static void oddsBySeeds(TwoHeapsAlike x, int seed, int seeds, int most) {
        int near = 0;
        for (int i = seed; i < seed + seeds; i++) {
            near += x.drawn(i, 1) <= most ? 1 : 0;
        }
        oddsOf("as drawn", x, seed, seeds, most, near);
    }

    private static void promise34() {
        check.section("34");
        check.says("In how many of so many (1 .. 40) seeds, SEED and each 1 more");
        TwoHeapsAlike x = Given.cards(1, 2, 3, 4, 5);
        oddsBySeeds(x, 0, 40, 5);
        oddsBySeeds(x, 17, 12, 7);
        oddsBySeeds(x, 3, 1, 0);
        oddsBySeeds(x, 500, 36, 3);
        oddsBySeeds(x, 9, 30, 9999);
        // By hand, LOTS odd and even of SEED 0, both even of SEED 1, odd and even of SEED 2 (144813, 547817382).
        odds("two of 1", Given.cards(1, 1), 0, 1, 0, 1, 1);
        odds("two of 1", Given.cards(1, 1), 1, 1, 0, 0, 1);
        odds("two of 1", Given.cards(1, 1), 0, 2, 0, 1, 2);
        odds("two of 1", Given.cards(1, 1), 0, 3, 0, 2, 3);
        check.says("(they may pass 99999),");
        x = Given.cards(1, 2, 4, 8, 16);
        for (int seeds = 1; seeds <= 40; seeds++) {
            int near = 0;
            for (int seed = 99999; seed < 99999 + seeds; seed++) {
                near += Math.abs(2 * left(seed, 5) - 31) <= 9 ? 1 : 0;
            }
            oddsOf("from the last SEED on", x, 99999, seeds, 9, near);
        }
        check.says("drawn(.., 1) is no more than most (0 .. 9999):");
        odds("4, most 3", Given.cards(4), 0, 40, 3, 0, 1);
        odds("4, most 4", Given.cards(4), 0, 40, 4, 1, 1);
        odds("4, most 9999", Given.cards(4), 0, 40, 9999, 1, 1);
        TwoHeapsAlike y = leftCounts();
        y.lay(0, 1);
        odds("SUMS as they lie now, 55 and 3", y, 0, 1, 51, 0, 1);
        odds("SUMS as they lie now, 55 and 3", y, 0, 1, 52, 1, 1);
        check.says("part 0 above, 1 below the line,");
        odds("of a new object", new TwoHeapsAlike(), 5, 20, 6, 1, 1);
        odds("two of 1", Given.cards(1, 1), 0, 3, 1, 2, 3);
        check.says("in lowest terms.");
        odds("all", x, 0, 40, 9999, 1, 1);
        odds("none", Given.cards(1), 0, 40, 0, 0, 1);
        for (int seeds = 1; seeds <= 40; seeds++) {
            oddsBySeeds(Given.cards(3, 2, 2), 7, seeds, 1);
        }
        check.says("NO: none such.");
        long no = TwoHeapsAlike.NO;
        for (int seed : new int[] {-1, 100000, MIN, MAX}) {
            due("seed " + seed, x.odds(seed, 1, 0, 0), no);
        }
        for (int seeds : new int[] {0, -1, 41, MIN, MAX}) {
            due("seeds " + seeds, x.odds(0, seeds, 0, 0), no);
        }
        for (int most : new int[] {-1, 10000, MIN, MAX}) {
            due("most " + most, x.odds(0, 1, most, 1), no);
        }
        for (int part : new int[] {-1, 2, MIN, MAX}) {
            due("part " + part, x.odds(0, 1, 0, part), no);
        }
    }

    /** A BOUND to the RIGHT, a GREAT to the LEFT, a DEBT ASIDE; TEXT 1 is THE LAW. */
    private static TwoHeapsAlike three() {
        TwoHeapsAlike x = Given.kinds(21, 10, 30, 20, 47, 30);
        Given.law(x, "counts 1; moves 1; asks 1;");
        Given.lay(x, 2, 1);
        return x;
    }

    private static void promise35() {
        check.section("35");
        check.says("AN IMAGE is kept: how many CARDS.");
        TwoHeapsAlike x = new TwoHeapsAlike();
        due("of none", x.image(), 0);
        due("it is kept", x.back(), 0);
        x = three();
        due("of three", x.image(), 3);
        x.drop();
        due("of two, in the first one's stead", x.image(), 2);
        x.drop();
        due("it is kept instead", x.back(), 2);
        due("of ten", Given.cards(1, 1, 1, 1, 1, 1, 1, 1, 1, 1).image(), 10);
    }

    private static void promise36() {
        check.section("36");
        check.says("All that it keeps is as in THE IMAGE: how many CARDS.");
        TwoHeapsAlike x = three();
        x.image();
        x.force(0);
        x.lay(0, 0);
        x.lay(1, 2);
        x.drop();
        x.drop();
        x.card(52, 77);
        x.card(0, 1);
        x.card(0, 1);
        x.card(0, 1);
        Given.text(x, "counts 2; moves 1; asks 1;");
        Given.sheet(x, 0, 1);
        Given.tape(x, "abc");
        for (int time = 0; time < 2; time++) {
            due("back()", x.back(), 3);
            due("CARDS", x.count(0), 3);
            due("LEFT", x.count(1), 2);
            due("RIGHT", x.count(2), 1);
            due("THE LAW", x.count(4), 1);
            due("KIND", x.told(1, 0), 3);
            due("TOLD", x.told(1, 1), 20);
            due("MORE", x.told(2, 2), 7);
            due("TEXTS are not kept", x.count(3), 3);
            due("SHEETS are not kept", x.cell(0, 0, 1), 1);
            due("THE TAPE is not kept", x.count(5), 3);
            x.lay(0, 0);
            x.drop();
            x.force(2);
        }
        x = new TwoHeapsAlike();
        x.image();
        x.card(0, 1);
        due("back to none", x.back(), 0);
        due("none", x.count(0), 0);
        check.says("STATE: there is none.");
        due("of a new object", new TwoHeapsAlike().back(), -3);
        x = Given.cards(1, 2);
        due("of two CARDS", x.back(), -3);
        due("they are there", x.count(0), 2);
    }

    public static void main(String[] args) throws Exception {
        check = new Check("LotTest", args[0], "32", "33", "34", "35", "36");
        promise32();
        promise33();
        promise34();
        promise35();
        promise36();
        check.end();
    }
}
