/** Promises 32 to 36: drawn, deal, odds, image, back. */
public final class LotTest {
    private static final Check check = new Check("LotTest");

    private static void due(String call, long got, long want) {
        check.due(call, got, want);
    }

    /** LOTS as the terms tell them, in a way of the tests' own. */
    private static int left(int seed, int cards) {
        java.math.BigInteger lot = java.math.BigInteger.valueOf(seed + 1L);
        int left = 0;
        for (int c = 0; c < cards; c++) {
            lot = lot.multiply(java.math.BigInteger.valueOf(48271)).mod(java.math.BigInteger.valueOf(2147483647));
            left |= lot.testBit(0) ? 0 : 1 << c;
        }
        return left;
    }

    private static void promise32() {
        TwoHeapsAlike x = Check.with(1, 2, 4, 8, 16, 32, 64, 128, 256, 512);
        due("32 drawn(-1, 0)", x.drawn(-1, 0), -2);
        due("32 drawn(100000, 0)", x.drawn(100000, 0), -2);
        due("32 drawn(0, -1)", x.drawn(0, -1), -2);
        due("32 drawn(0, 2)", x.drawn(0, 2), -2);
        due("32 none", new TwoHeapsAlike().drawn(5, 0), 0);
        due("32 none: how far", new TwoHeapsAlike().drawn(5, 1), 0);
        int[] seeds = {0, 1, 2, 3, 7, 99, 31337, 99999};
        for (int seed : seeds) {
            int left = left(seed, 10);
            due("32 drawn(" + seed + ", 0)", x.drawn(seed, 0), left);
            due("32 drawn(" + seed + ", 1)", x.drawn(seed, 1), Math.abs(2 * left - 1023));
        }
        // 1 * 48271 is odd, 48271 * 48271 modulo 2147483647 is 182605794, even.
        due("32 by hand", Check.with(1, 1).drawn(0, 0), 2);
        x = Check.with(1);
        x.card(20, 1);
        x.card(21, 1);
        x.card(0, 1);
        int free = left(7, 4);
        due("32 others as they MAY, a LOT each", x.drawn(7, 0), free & 9 | 2);
        due("32 nothing lies so", x.count(1) + x.count(2), 0);
        x = Check.with(5, 3);
        Check.force(x, "counts number + 50 * left; moves 1; asks 1;");
        due("32 SUMS as they lie now", x.drawn(0, 1), 2);
        x.lay(0, 1);
        due("32 SUMS as they lie now, one to the LEFT", x.drawn(0, 1), 52);
    }

    private static void promise33() {
        TwoHeapsAlike x = Check.with(5, 3, 9);
        due("33 deal(-1)", x.deal(-1), -2);
        due("33 deal(100000)", x.deal(100000), -2);
        due("33 nothing lies so", x.count(1) + x.count(2), 0);
        int left = left(4, 3);
        int far = x.drawn(4, 1);
        due("33 deal", x.deal(4), far);
        due("33 deal: LEFT", x.count(1), left);
        due("33 deal: RIGHT", x.count(2), 7 - left);
        due("33 none", new TwoHeapsAlike().deal(99999), 0);
        x = Check.with(5, 3);
        Check.force(x, "counts number + 50 * left; moves 1; asks 1;");
        due("33 how far then", x.deal(0), 48);
        x = new TwoHeapsAlike();
        x.card(20, 5);
        x.card(21, 5);
        x.deal(0);
        due("33 as they MAY: LEFT", x.count(1), 1);
        due("33 as they MAY: RIGHT", x.count(2), 2);
    }

    private static void promise34() {
        TwoHeapsAlike x = Check.with(1, 2, 3, 4, 5);
        long no = TwoHeapsAlike.NO;
        due("34 odds(-1, ..)", x.odds(-1, 1, 0, 0), no);
        due("34 odds(100000, ..)", x.odds(100000, 1, 0, 0), no);
        due("34 no seeds", x.odds(0, 0, 0, 0), no);
        due("34 41 seeds", x.odds(0, 41, 0, 0), no);
        due("34 most -1", x.odds(0, 1, -1, 0), no);
        due("34 most 10000", x.odds(0, 1, 10000, 0), no);
        due("34 part -1", x.odds(0, 1, 0, -1), no);
        due("34 part 2", x.odds(0, 1, 0, 2), no);
        int[][] tries = {{0, 40, 5}, {17, 12, 7}, {3, 1, 0}, {500, 36, 3}, {9, 30, 9999}};
        for (int[] t : tries) {
            int near = 0;
            for (int seed = t[0]; seed < t[0] + t[1]; seed++) {
                near += x.drawn(seed, 1) <= t[2] ? 1 : 0;
            }
            long above = x.odds(t[0], t[1], t[2], 0);
            long below = x.odds(t[0], t[1], t[2], 1);
            due("34 odds(" + t[0] + ", ..) as a part", above * t[1], below * near);
            due("34 in lowest terms", java.math.BigInteger.valueOf(above).gcd(
                java.math.BigInteger.valueOf(below)).longValue(), 1);
        }
        due("34 all", x.odds(0, 40, 9999, 0), 1);
        due("34 all: below", x.odds(0, 40, 9999, 1), 1);
        x = Check.with(1);
        due("34 none of them", x.odds(0, 40, 0, 0), 0);
        due("34 none of them: below", x.odds(0, 40, 0, 1), 1);
        x = Check.with(1, 2, 4, 8, 16);
        int near = 0;
        for (int seed = 99999; seed < 100039; seed++) {
            near += Math.abs(2 * left(seed, 5) - 31) <= 9 ? 1 : 0;
        }
        due("34 they may pass 99999", x.odds(99999, 40, 9, 0) * 40, x.odds(99999, 40, 9, 1) * near);
    }

    private static void promises35And36() {
        TwoHeapsAlike x = new TwoHeapsAlike();
        due("36 back() without one", x.back(), -3);
        due("35 image() of none", x.image(), 0);
        x.card(0, 1);
        due("36 back() to none", x.back(), 0);
        due("36 none", x.count(0), 0);
        x.card(21, 10);
        x.card(30, 20);
        x.card(47, 30);
        Check.text(x, "counts 1; moves 1; asks 1;");
        x.force(1);
        x.lay(0, 2);
        x.lay(1, 1);
        due("35 image()", x.image(), 3);
        x.force(0);
        x.lay(0, 0);
        x.lay(1, 2);
        x.drop();
        x.drop();
        x.card(52, 77);
        x.card(0, 1);
        x.card(0, 1);
        x.card(0, 1);
        Check.text(x, "counts 2; moves 1; asks 1;");
        Check.sheet(x, 0, 1);
        Check.tape(x, "abc");
        for (int time = 0; time < 2; time++) {
            due("36 back()", x.back(), 3);
            due("36 CARDS", x.count(0), 3);
            due("36 LEFT", x.count(1), 2);
            due("36 RIGHT", x.count(2), 1);
            due("36 THE LAW", x.count(4), 1);
            due("36 KIND", x.told(1, 0), 3);
            due("36 TOLD", x.told(1, 1), 20);
            due("36 MORE", x.told(2, 2), 7);
            due("36 TEXTS are not kept", x.count(3), 3);
            due("36 SHEETS are not kept", x.cell(0, 0, 1), 1);
            due("36 THE TAPE is not kept", x.count(5), 3);
            x.lay(0, 0);
            x.drop();
            x.force(2);
        }
        due("35 another image()", x.image(), 2);
        x.back();
        due("36 back() to the last one", x.count(0), 2);
        due("36 THE LAW of the last one", x.count(4), 2);
    }

    public static void main(String[] args) {
        promise32();
        promise33();
        promise34();
        promises35And36();
        check.end();
    }
}
