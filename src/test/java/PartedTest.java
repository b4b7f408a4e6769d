/** Promises 16 to 19: fair, thirds, swap, mend. */
public final class PartedTest {
    private static final int MIN = Integer.MIN_VALUE, MAX = Integer.MAX_VALUE;
    private static Check check;

    private static void due(String call, long got, long want) {
        check.due(call, got, want);
    }

    private static TwoHeapsAlike lying(int left, int right, TwoHeapsAlike x) {
        Given.lay(x, left, right);
        return x;
    }

    private static TwoHeapsAlike lawful(String text, int... numbers) {
        TwoHeapsAlike x = Given.cards(numbers);
        Given.law(x, text);
        return x;
    }

    private static void fair(String of, TwoHeapsAlike x, int sort, int left, int far) {
        due(of + ": fair(" + sort + ", 0)", x.fair(sort, 0), left);
        due(of + ": fair(" + sort + ", 1)", x.fair(sort, 1), far);
    }

    private static void promise16() {
        check.section("16");
        check.says("Of all ways in which all CARDS could lie to the LEFT, or the RIGHT, as they MAY");
        fair("of a new object", new TwoHeapsAlike(), 0, 0, 0);
        fair("two that MAY lie LEFT alone", Given.kinds(20, 9, 20, 9, 0, 3), 0, 3, 15);
        fair("two that MAY lie RIGHT alone", Given.kinds(21, 9, 41, 9, 0, 3), 0, 0, 3);
        fair("a DEBT", Given.kinds(0, 5, 40, 5), 0, 3, 0);
        fair("all of them, also those ASIDE", lying(1, 2, Given.cards(1, 2, 3)), 0, 3, 0);
        check.says("(sort 1: as many each),");
        fair("1 2 3 6, sort 0", Given.cards(1, 2, 3, 6), 0, 7, 0);
        fair("1 2 3 6, sort 1", Given.cards(1, 2, 3, 6), 1, 6, 2);
        fair("of a new object", new TwoHeapsAlike(), 1, 0, 0);
        fair("two that MAY lie LEFT alone", Given.kinds(20, 9, 20, 9, 0, 3, 0, 4), 1, 3, 11);
        check.says("that by which SUMS are least APART,");
        fair("7 3 5 1", Given.cards(7, 3, 5, 1), 0, 6, 0);
        fair("9 4", Given.cards(9, 4), 0, 1, 5);
        TwoHeapsAlike x = lawful("counts number + 9 * left; moves 1; asks 1;", 1, 10);
        fair("SUMS as all lie now, ASIDE", x, 0, 1, 9);
        fair("SUMS as all lie now, one to the LEFT", lying(1, 2, x), 0, 1, 0);
        check.says("of like ones the first:");
        fair("1: none or it to the LEFT", Given.cards(1), 0, 0, 1);
        fair("1 2 3: 1 and 2, or 3", Given.cards(1, 2, 3), 0, 3, 0);
        fair("4 4 4 4, sort 1", Given.cards(4, 4, 4, 4), 1, 3, 0);
        check.says("what lies to the LEFT (what 0), how far (1);");
        fair("5 9 1", Given.cards(5, 9, 1), 0, 2, 3);
        fair("ten CARDS", Given.cards(512, 256, 128, 64, 32, 16, 8, 4, 2, 1), 0, 1, 1);
        check.says("-1: there is no such way.");
        fair("one CARD, sort 1", Given.cards(1), 1, -1, -1);
        fair("three CARDS, sort 1", Given.cards(1, 2, 3), 1, -1, -1);
        fair("two of two MAY lie LEFT alone, sort 1", Given.kinds(20, 1, 20, 1), 1, -1, -1);
        fair("three of four MAY lie RIGHT alone, sort 1", Given.kinds(21, 1, 21, 1, 21, 1, 0, 1), 1, -1, -1);
        check.says("BAD.");
        for (int bad : new int[] {-1, 2, MIN, MAX}) {
            due("fair(" + bad + ", 0)", Given.cards(1).fair(bad, 0), -2);
            due("fair(0, " + bad + ")", Given.cards(1).fair(0, bad), -2);
        }
    }

    private static void thirds(String of, TwoHeapsAlike x, int first, int second, int far) {
        due(of + ": thirds(0)", x.thirds(0), first);
        due(of + ": thirds(1)", x.thirds(1), second);
        due(of + ": thirds(2)", x.thirds(2), far);
    }

    private static void promise17() {
        check.section("17");
        check.says("Of all ways to part all CARDS into three HEAPS that by which the greatest SUM of these is least above"
            + " the least,");
        thirds("1 2 3 4 5", Given.cards(1, 2, 3, 4, 5), 6, 9, 0);
        thirds("7 2 6", Given.cards(7, 2, 6), 1, 2, 5);
        // 8 and 4 + 3 and 3 + 3; not 8 + .. nor 4 + 3 + 3.
        thirds("8 4 3 3 3", Given.cards(8, 4, 3, 3, 3), 1, 6, 2);
        thirds("LEFT alone, which doesn't matter", Given.kinds(20, 4, 20, 4, 20, 4), 1, 2, 0);
        thirds("of a new object", new TwoHeapsAlike(), 0, 0, 0);
        TwoHeapsAlike x = lawful("counts number + 5 * left; moves 1; asks 1;", 5, 0, 5);
        thirds("as all lie now, ASIDE", x, 0, 1, 5);
        thirds("as all lie now, one to the LEFT", lying(2, 0, x), 1, 2, 0);
        check.says("of like ones the first (by the first HEAP, then the second):");
        thirds("4: the third one", Given.cards(4), 0, 0, 4);
        thirds("5 and -5: together, the third one", Given.kinds(0, 5, 40, 5), 0, 0, 0);
        thirds("3 3 3", Given.cards(3, 3, 3), 1, 2, 0);
        thirds("2 2 1 1 1 1 1", Given.cards(2, 2, 1, 1, 1, 1, 1), 5, 10, 0);
        check.says("what 0, 1 these, 2 how far.");
        thirds("9 1 5", Given.cards(9, 1, 5), 1, 2, 8);
        thirds("1 9 5 5", Given.cards(1, 9, 5, 5), 2, 4, 4);
        check.says("BAD.");
        for (int what : new int[] {-1, 3, MIN, MAX}) {
            due("thirds(" + what + ")", Given.cards(1).thirds(what), -2);
        }
    }

    private static void swap(String of, TwoHeapsAlike x, int cards, int far) {
        due(of + ": swap(0)", x.swap(0), cards);
        due(of + ": swap(1)", x.swap(1), far);
    }

    private static void promise18() {
        check.section("18");
        check.says("A CARD that lies to the LEFT, one to the RIGHT,");
        swap("10 to 1, not the 5 ASIDE", lying(1, 2, Given.cards(10, 1, 5)), -1, 9);
        swap("10 and 5 to 1", lying(5, 2, Given.cards(10, 1, 5)), 1, 4);
        check.says("by which, did they change (as they MAY),");
        swap("9 8 to 1 3", lying(3, 12, Given.kinds(0, 9, 0, 8, 0, 1, 0, 3)), 3, 1);
        swap("9 MAY lie LEFT alone, 1 RIGHT alone", lying(3, 12, Given.kinds(20, 9, 0, 8, 21, 1, 0, 3)), 13, 3);
        swap("all LEFT alone or RIGHT alone", lying(1, 2, Given.kinds(20, 9, 21, 1)), -1, 8);
        check.says("both HEAPS would be least APART (SUMS as they lie then),");
        TwoHeapsAlike x = lying(1, 2, lawful("counts number + 5 * left; moves 1; asks 1;", 6, 2));
        due("apart() now", x.apart(), 9);
        swap("6 and 5 more to 2", x, 1, 1);
        due("nothing is changed", x.apart(), 9);
        x = lawful("counts number + card * left; moves 1; asks 1;", 3, 8, 2);
        // 9 to 5: 8 (9 to the LEFT) for 3 leaves 3 to 10, for 2 leaves 4 to 11.
        swap("9 to 3 and 2", lying(2, 5, x), -1, 4);
        // 13 to 3: 8 for 3 leaves 7 to 8, 2 for 3 leaves 12 to 2.
        swap("9 and 4 to 3", lying(6, 1, x), 10, 1);
        check.says("if less than now,");
        swap("5 to 4: as far", lying(1, 2, Given.cards(5, 4)), -1, 1);
        swap("5 to 5: as far", lying(1, 2, Given.cards(5, 5)), -1, 0);
        swap("5 3 to 4: 5 for 4 is nearer", lying(5, 2, Given.cards(5, 4, 3)), 1, 2);
        check.says("of like ones the first:");
        // 17 to 4: 7 for 1 leaves 11 to 10, 10 for 3 leaves 10 to 11: the lesser CARD to the LEFT is the first.
        swap("10 7 to 1 3", lying(3, 12, Given.cards(10, 7, 1, 3)), 3, 1);
        swap("6 6 to 3 3", lying(3, 12, Given.cards(6, 6, 3, 3)), 2, 0);
        swap("3 3 to 6 6, the LEFT one first", lying(12, 3, Given.cards(6, 6, 3, 3)), 20, 0);
        check.says("10 times the one, and the other (what 0;");
        swap("1 3 to 10 7, the LEFT one first", lying(12, 3, Given.cards(10, 7, 1, 3)), 21, 1);
        x = Given.cards(1, 1, 1, 1, 1, 1, 1, 1, 1, 5);
        swap("CARD 9 for CARD 8", lying(1 << 9, 1 << 8, x), -1, 4);
        swap("CARD 9 for CARD 7", lying(3 << 8 | 1, 1 << 7, x), 97, 2);
        check.says("-1: none),");
        due("of a new object", new TwoHeapsAlike().swap(0), -1);
        due("none on a side", Given.cards(4, 9).swap(0), -1);
        due("none to the RIGHT", lying(3, 0, Given.cards(4, 9)).swap(0), -1);
        due("none to the LEFT", lying(0, 3, Given.cards(4, 9)).swap(0), -1);
        check.says("how far then (1;");
        due("10 and 5 to 1", lying(5, 2, Given.cards(10, 1, 5)).swap(1), 4);
        due("1 to 10 and 5", lying(2, 5, Given.cards(10, 1, 5)).swap(1), 4);
        check.says("as now, if none).");
        due("of a new object", new TwoHeapsAlike().swap(1), 0);
        due("none on a side", Given.cards(4, 9).swap(1), 0);
        due("none to the RIGHT", lying(3, 0, Given.cards(4, 9)).swap(1), 13);
        due("none to the LEFT", lying(0, 3, Given.cards(4, 9)).swap(1), 13);
        check.says("BAD.");
        for (int what : new int[] {-1, 2, MIN, MAX}) {
            due("swap(" + what + ")", Given.cards(1).swap(what), -2);
        }
    }

    private static void mend(String of, TwoHeapsAlike x, int most, int cost, int left) {
        due(of + ": mend(" + most + ", 0)", x.mend(most, 0), cost);
        due(of + ": mend(" + most + ", 1)", x.mend(most, 1), left);
    }

    private static void promise19() {
        check.section("19");
        check.says("Of all ways in which CARDS that lie to the LEFT or the RIGHT could lie to the LEFT or the RIGHT,");
        mend("10 7 1 3, all LEFT", lying(15, 0, Given.cards(10, 7, 1, 3)), 20, 1, 7);
        mend("4 LEFT, 4 ASIDE", lying(1, 0, Given.cards(4, 4)), 3, -1, -1);
        mend("4 LEFT, 4 ASIDE: as it is", lying(1, 0, Given.cards(4, 4)), 4, 0, 1);
        mend("4 RIGHT, 4 ASIDE: as it is", lying(0, 2, Given.cards(4, 4)), 4, 0, 0);
        mend("none on a side", Given.cards(4, 4), 0, 0, 0);
        mend("of a new object", new TwoHeapsAlike(), 0, 0, 0);
        check.says("as they MAY,");
        // MOVING 8 would cost 3, MOVING 5 and 3 costs 18.
        TwoHeapsAlike bound = lying(7, 0, Given.kinds(20, 8, 0, 5, 0, 3));
        Given.law(bound, "counts number; moves 9 * (number < 8); asks 1;");
        mend("8 MAY lie LEFT alone", bound, 0, 18, 1);
        bound = lying(0, 7, Given.kinds(21, 8, 0, 5, 0, 3));
        Given.law(bound, "counts number; moves 9 * (number < 8); asks 1;");
        mend("8 MAY lie RIGHT alone", bound, 0, 18, 6);
        mend("LEFT alone, all of them", lying(3, 0, Given.kinds(20, 8, 20, 8)), 15, -1, -1);
        mend("RIGHT alone, all of them", lying(0, 3, Given.kinds(21, 8, 21, 8)), 15, -1, -1);
        check.says("so that SUMS are no more than most (0 .. 9999) APART,");
        TwoHeapsAlike x = lying(15, 0, Given.cards(10, 7, 1, 3));
        mend("21 to 0", x, 9999, 0, 15);
        mend("21 to 0", x, 21, 0, 15);
        mend("19 to 1", x, 20, 1, 7);
        mend("11 to 10", x, 1, 1, 14);
        mend("no way", x, 0, -1, -1);
        mend("10 to 10", lying(15, 0, Given.cards(10, 7, 1, 2)), 0, 1, 14);
        x = lying(7, 0, lawful("counts number + 2 * left; moves 3; asks 1;", 6, 2, 3));
        mend("SUMS as they lie now, 8 to 4 and 5", x, 1, 3, 6);
        check.says("that by which MOVING (as now) of all that lie otherwise than now costs least together,");
        x = lying(15, 0, lawful("counts number; moves number * left + 1; asks 1;", 10, 7, 1, 3));
        mend("10 for 11, or 7 and 3 for 12", x, 1, 11, 14);
        x = lying(3, 4, Given.kinds(20, 6, 30, 1, 50, 4));
        Given.law(x, "counts number; moves 5; asks 1;");
        // 6 (LEFT alone) and 2 to 0: the GREAT costs 10, the BLANK nothing, but it COUNTS 0.
        mend("a GREAT", x, 7, 10, 1);
        x = lying(1, 6, lawful("counts number; moves 1 + 8 * left; asks 1;", 9, 1, 2));
        mend("9 to 3: no way is nearer", x, 5, -1, -1);
        mend("9 to 3: as it is", x, 6, 0, 1);
        check.says("of like ones the first:");
        mend("MOVING costs nothing", lying(2, 1, lawful("counts number; moves 0; asks 1;", 2, 2)), 0, 0, 1);
        mend("5 5 1: either 5", lying(7, 0, Given.cards(5, 5, 1)), 1, 1, 5);
        check.says("that (what 0),");
        due("two of 1", lying(15, 0, Given.cards(4, 4, 4, 4)).mend(0, 0), 2);
        due("none of 1", lying(3, 12, Given.cards(4, 4, 4, 4)).mend(0, 0), 0);
        check.says("what lies to the LEFT (1);");
        due("two of 1", lying(15, 0, Given.cards(4, 4, 4, 4)).mend(0, 1), 3);
        due("none of 1", lying(12, 3, Given.cards(4, 4, 4, 4)).mend(0, 1), 12);
        check.says("-1: there is none.");
        mend("1, most 0", lying(1, 0, Given.cards(1)), 0, -1, -1);
        mend("1, most 1", lying(1, 0, Given.cards(1)), 1, 0, 1);
        check.says("BAD.");
        for (int most : new int[] {-1, 10000, MIN, MAX}) {
            due("mend(" + most + ", 0)", Given.cards(1).mend(most, 0), -2);
        }
        for (int what : new int[] {-1, 2, MIN, MAX}) {
            due("mend(0, " + what + ")", Given.cards(1).mend(0, what), -2);
        }
    }

    public static void main(String[] args) throws Exception {
        check = new Check("PartedTest", args[0], "16", "17", "18", "19");
        promise16();
        promise17();
        promise18();
        promise19();
        check.end();
    }
}
