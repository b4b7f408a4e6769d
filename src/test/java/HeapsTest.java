/** Promises 11 to 15: heap, apart, must, alike, three. */
public final class HeapsTest {
    private static final int MIN = Integer.MIN_VALUE, MAX = Integer.MAX_VALUE;
    private static Check check;

    private static void due(String call, long got, long want) {
        check.due(call, got, want);
    }

    /** 3, 5, 7, -9. */
    private static TwoHeapsAlike some() {
        return Given.kinds(0, 3, 0, 5, 0, 7, 40, 9);
    }

    private static TwoHeapsAlike countingLeft(String more, int... numbers) {
        TwoHeapsAlike x = Given.cards(numbers);
        Given.law(x, "counts number + " + more + " * left; moves 1; asks 1;");
        return x;
    }

    private static void promise11() {
        check.section("11");
        check.says("Of a HEAP what 0 SUM,");
        due("of the empty one", some().heap(0, 0), 0);
        due("of one CARD", some().heap(4, 0), 7);
        due("of two", some().heap(6, 0), 12);
        due("of all, one a DEBT", some().heap(15, 0), 6);
        TwoHeapsAlike x = countingLeft("10", 3, 5, 7);
        x.lay(0, 1);
        due("as all lie now", x.heap(3, 0), 18);
        check.says("1 SQUARES,");
        due("of the empty one", some().heap(0, 1), 0);
        due("of one CARD", some().heap(4, 1), 49);
        due("of two", some().heap(6, 1), 74);
        due("of all, one a DEBT", some().heap(15, 1), 164);
        due("as all lie now", x.heap(3, 1), 194);
        x = Given.kinds(39, 999, 39, 999);
        due("of the greatest ones", x.heap(3, 1), 2 * 2007 * 2007);
        check.says("2 how many CARDS.");
        due("in the empty one", some().heap(0, 2), 0);
        due("in one of one", some().heap(8, 2), 1);
        due("in one of two", some().heap(9, 2), 2);
        due("in one of all", some().heap(15, 2), 4);
        due("in one of ten", Given.cards(1, 1, 1, 1, 1, 1, 1, 1, 1, 1).heap(1023, 2), 10);
        check.says("-100000: no such HEAP;");
        for (int set : new int[] {16, -1, 1023, 1024, MIN, MAX}) {
            due("heap(" + set + ", 0)", some().heap(set, 0), -100000);
        }
        due("of a new object", new TwoHeapsAlike().heap(1, 2), -100000);
        due("of ten CARDS", Given.cards(1, 1, 1, 1, 1, 1, 1, 1, 1, 1).heap(1024, 2), -100000);
        due("ahead of what", some().heap(16, 3), -100000);
        check.says("-200000: what.");
        for (int what : new int[] {3, -1, MIN, MAX}) {
            due("heap(0, " + what + ")", some().heap(0, what), -200000);
        }
    }

    private static void promise12() {
        check.section("12");
        check.says("SUM of what lies to the LEFT less SUM of what lies to the RIGHT.");
        TwoHeapsAlike x = Given.cards(3, 5, 7, 20);
        due("none lies on a side", x.apart(), 0);
        Given.lay(x, 1, 6);
        due("3 less 5 and 7", x.apart(), -9);
        Given.lay(x, 6, 1);
        due("5 and 7 less 3", x.apart(), 9);
        Given.lay(x, 6, 0);
        due("none to the RIGHT", x.apart(), 12);
        Given.lay(x, 0, 6);
        due("none to the LEFT", x.apart(), -12);
        x = countingLeft("100", 3, 5, 7, 20);
        Given.lay(x, 6, 1);
        due("as they lie now", x.apart(), 209);
        due("of a new object", new TwoHeapsAlike().apart(), 0);
        x = Given.kinds(0, 4, 40, 9);
        Given.lay(x, 3, 0);
        due("with a DEBT", x.apart(), -5);
    }

    private static void promise13() {
        check.section("13");
        check.says("1, if there are more HEAPS (with the empty one) than whole numbers from the least to the greatest SUM"
            + " of any HEAP,");
        due("0: two HEAPS, one number", Given.cards(0).must(), 1);
        due("1, 2, 3: eight HEAPS, seven numbers", Given.cards(1, 2, 3).must(), 1);
        due("1, 2, -3: eight HEAPS, seven numbers", Given.kinds(0, 1, 0, 2, 40, 3).must(), 1);
        due("1 to 511: 1024 HEAPS, 1023 numbers", Given.cards(1, 2, 4, 8, 16, 32, 64, 128, 256, 511).must(), 1);
        TwoHeapsAlike x = countingLeft("9", 0);
        due("by where it lies: ASIDE", x.must(), 1);
        check.says("else 0.");
        due("no CARD: one HEAP, one number", new TwoHeapsAlike().must(), 0);
        due("1: two HEAPS, two numbers", Given.cards(1).must(), 0);
        due("-1: two HEAPS, two numbers", Given.kinds(40, 1).must(), 0);
        due("1, 2, 4: eight HEAPS, eight numbers", Given.cards(1, 2, 4).must(), 0);
        due("1, 2, -4: eight HEAPS, eight numbers", Given.kinds(0, 1, 0, 2, 40, 4).must(), 0);
        due("1, 1, 9: more numbers, though two are alike", Given.cards(1, 1, 9).must(), 0);
        due("1 to 512: 1024 HEAPS, 1024 numbers", Given.cards(1, 2, 4, 8, 16, 32, 64, 128, 256, 512).must(), 0);
        x.lay(0, 1);
        due("by where it lies: to the LEFT", x.must(), 0);
    }

    /** 9 is 2 + 3 + 4 and, later as bits, 5 + 4; as many CARDS each have 2 + 5 and 3 + 4 alone. */
    private static TwoHeapsAlike five() {
        return Given.cards(9, 2, 3, 5, 4);
    }

    private static void promise14() {
        check.section("14");
        check.says("PAIRS (sort 0 .. 2): what 0 how many,");
        due("sort 0: 1 2 3", Given.cards(1, 2, 3).alike(0, 0), 2);
        due("sort 1: 1 2 3", Given.cards(1, 2, 3).alike(1, 0), 0);
        due("sort 1: 1 4 2 3", Given.cards(1, 4, 2, 3).alike(1, 0), 2);
        due("sort 2: 1 4 2 3", Given.cards(1, 4, 2, 3).alike(2, 0), 0);
        due("sort 2: 1 5 6 2 3 7", Given.cards(1, 5, 6, 2, 3, 7).alike(2, 0), 2);
        due("5 5 0", Given.cards(5, 5, 0).alike(0, 0), 6);
        due("of a new object", new TwoHeapsAlike().alike(0, 0), 0);
        due("1 2 4", Given.cards(1, 2, 4).alike(0, 0), 0);
        due("LEFT alone and RIGHT alone", Given.kinds(20, 5, 21, 5, 20, 5).alike(0, 0), 2);
        check.says("1 the LEFT HEAP of the first, 2 its RIGHT one");
        due("1 2 3: LEFT", Given.cards(1, 2, 3).alike(0, 1), 3);
        due("1 2 3: RIGHT", Given.cards(1, 2, 3).alike(0, 2), 4);
        due("five: LEFT", five().alike(0, 1), 1);
        due("five: RIGHT", five().alike(0, 2), 22);
        due("sort 1, five: LEFT", five().alike(1, 1), 10);
        due("sort 1, five: RIGHT", five().alike(1, 2), 20);
        due("sort 2, 1 5 6 2 3 7: LEFT", Given.cards(1, 5, 6, 2, 3, 7).alike(2, 1), 7);
        due("sort 2, 1 5 6 2 3 7: RIGHT", Given.cards(1, 5, 6, 2, 3, 7).alike(2, 2), 56);
        TwoHeapsAlike x = countingLeft("1", 1, 2);
        due("by where they lie: ASIDE", x.alike(0, 1), -1);
        x.lay(0, 1);
        due("by where they lie: to the LEFT", x.alike(0, 1), 1);
        check.says("(-1: there is none),");
        for (int what = 1; what < 3; what++) {
            due("of a new object: alike(0, " + what + ")", new TwoHeapsAlike().alike(0, what), -1);
            due("1 2 4: alike(0, " + what + ")", Given.cards(1, 2, 4).alike(0, what), -1);
            due("1 2 3: alike(1, " + what + ")", Given.cards(1, 2, 3).alike(1, what), -1);
            due("1 4 2 3: alike(2, " + what + ")", Given.cards(1, 4, 2, 3).alike(2, what), -1);
        }
        check.says("3 how many CARDS that has together that has most (0).");
        due("5 5 0, not the first PAIR", Given.cards(5, 5, 0).alike(0, 3), 3);
        due("sort 1: 5 5 0", Given.cards(5, 5, 0).alike(1, 3), 2);
        due("sort 1: 1 4 2 3", Given.cards(1, 4, 2, 3).alike(1, 3), 4);
        due("sort 2: 1 5 6 2 3 7", Given.cards(1, 5, 6, 2, 3, 7).alike(2, 3), 6);
        due("1 2 4: none", Given.cards(1, 2, 4).alike(0, 3), 0);
        due("of a new object", new TwoHeapsAlike().alike(2, 3), 0);
        check.says("BAD.");
        for (int bad : new int[] {-1, 4, MIN, MAX}) {
            due("alike(0, " + bad + ")", Given.cards(1, 1).alike(0, bad), -2);
            due("alike(" + bad + ", 0)", Given.cards(1, 1).alike(bad, 0), -2);
        }
        due("alike(3, 0)", Given.cards(1, 1).alike(3, 0), -2);
    }

    private static void promise15() {
        check.section("15");
        check.says("Three HEAPS of one SUM, none empty,");
        due("0 and 0, and the empty one", Given.cards(0, 0).three(0), 0);
        due("0, 0 and 0", Given.cards(0, 0, 0).three(0), 1);
        due("5, 5 and 6", Given.cards(5, 5, 6).three(0), 0);
        due("5 and -5", Given.kinds(0, 5, 40, 5).three(0), 0);
        check.says("no CARD in two,");
        due("1 2 3", Given.cards(1, 2, 3).three(0), 0);
        due("5, 5 and 2 + 3", Given.cards(5, 5, 2, 3).three(0), 1);
        due("3 1 2 1: 3, 1 + 2 and 2 + 1, which have 2 in both", Given.cards(3, 1, 2, 1).three(0), 0);
        check.says("wherever they MAY lie,");
        due("LEFT alone", Given.kinds(20, 5, 20, 5, 20, 5).three(0), 1);
        due("RIGHT alone", Given.kinds(21, 5, 21, 5, 21, 5).three(0), 1);
        check.says("the lesser as bits first:");
        TwoHeapsAlike x = Given.cards(2, 3, 5, 5);
        due("{2}, {0, 1} and {3}: the first", x.three(1), 3);
        due("the second", x.three(2), 4);
        due("the third", x.three(3), 8);
        check.says("what 0 how many such threes there are,");
        // 5; 5; 2 + 3 or 1 + 4; and 5; 1 + 4; 2 + 3 with either 5.
        x = Given.cards(5, 1, 5, 2, 3, 4);
        due("how many", x.three(0), 4);
        due("all of 0", Given.cards(0, 0, 0, 0).three(0), 10);
        due("three are one, in whichever order", Given.cards(7, 7, 7).three(0), 1);
        due("of a new object", new TwoHeapsAlike().three(0), 0);
        check.says("1 .. 3 the HEAPS of the first (by the first one, then the second, ..;");
        due("the first", x.three(1), 1);
        due("the second", x.three(2), 4);
        due("the third", x.three(3), 24);
        x = Given.cards(4, 1, 1, 3, 3);
        // {0} with {1, 3} {2, 4} or {1, 4} {2, 3}.
        due("how many by 4 1 1 3 3", x.three(0), 2);
        due("the first by the second one: the first", x.three(1), 1);
        due("the first by the second one: the second", x.three(2), 10);
        due("the first by the second one: the third", x.three(3), 20);
        x = Given.cards(4, 0, 4, 4);
        due("the first by the third one: the second", x.three(2), 4);
        due("the first by the third one: the third", x.three(3), 8);
        check.says("-1: there is none).");
        for (int what = 1; what < 4; what++) {
            due("1 2 4: three(" + what + ")", Given.cards(1, 2, 4).three(what), -1);
            due("of a new object: three(" + what + ")", new TwoHeapsAlike().three(what), -1);
        }
        check.says("BAD.");
        for (int what : new int[] {-1, 4, MIN, MAX}) {
            due("three(" + what + ")", Given.cards(1).three(what), -2);
        }
    }

    public static void main(String[] args) throws Exception {
        check = new Check("HeapsTest", args[0], "11", "12", "13", "14", "15");
        promise11();
        promise12();
        promise13();
        promise14();
        promise15();
        check.end();
    }
}
