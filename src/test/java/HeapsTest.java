/** Promises 11 to 15: heap, apart, must, alike, three. */
public final class HeapsTest {
    private static final Check check = new Check("HeapsTest");

    private static void due(String call, long got, long want) {
        check.due(call, got, want);
    }

    private static void promise11() {
        TwoHeapsAlike x = Check.with(3, 5, 7);
        due("11 heap(-1, 0)", x.heap(-1, 0), -100000);
        due("11 heap(8, 0)", x.heap(8, 0), -100000);
        due("11 no HEAP ahead of what", x.heap(8, 3), -100000);
        due("11 heap(0, 3)", x.heap(0, 3), -200000);
        due("11 heap(0, -1)", x.heap(0, -1), -200000);
        due("11 the empty one's SUM", x.heap(0, 0), 0);
        due("11 the empty one's SQUARES", x.heap(0, 1), 0);
        due("11 how many in the empty one", x.heap(0, 2), 0);
        due("11 SUM", x.heap(6, 0), 12);
        due("11 SQUARES", x.heap(6, 1), 74);
        due("11 how many", x.heap(6, 2), 2);
        x.card(40, 9);
        due("11 SUM with a DEBT", x.heap(15, 0), 6);
        due("11 SQUARES with a DEBT", x.heap(15, 1), 164);
        Check.force(x, "counts number + 10 * left; moves 1; asks 1;");
        x.lay(0, 1);
        due("11 SUM as all lie now", x.heap(3, 0), 18);
        due("11 SQUARES as all lie now", x.heap(3, 1), 194);
    }

    private static void promise12() {
        TwoHeapsAlike x = Check.with(3, 5, 7, 20);
        due("12 none lies on a side", x.apart(), 0);
        Check.lay(x, 1, 6);
        due("12 apart()", x.apart(), -9);
        Check.lay(x, 6, 1);
        due("12 apart() the other way", x.apart(), 9);
        Check.force(x, "counts number + 100 * left; moves 1; asks 1;");
        due("12 apart() by where they lie", x.apart(), 209);
    }

    private static void promise13() {
        due("13 no CARD", new TwoHeapsAlike().must(), 0);
        due("13 a 0", Check.with(0).must(), 1);
        due("13 a 1", Check.with(1).must(), 0);
        due("13 1, 2, 4", Check.with(1, 2, 4).must(), 0);
        due("13 1, 2, 3", Check.with(1, 2, 3).must(), 1);
        TwoHeapsAlike x = Check.with(1, 2);
        x.card(40, 4);
        due("13 from -4 to 3", x.must(), 0);
        x.drop();
        x.card(40, 3);
        due("13 from -3 to 3", x.must(), 1);
        due("13 1 to 512", Check.with(1, 2, 4, 8, 16, 32, 64, 128, 256, 512).must(), 0);
        due("13 1 to 511", Check.with(1, 2, 4, 8, 16, 32, 64, 128, 256, 511).must(), 1);
    }

    private static void alike(String of, TwoHeapsAlike x, int sort, int... want) {
        for (int what = 0; what < 4; what++) {
            due("14 " + of + ": alike(" + sort + ", " + what + ")", x.alike(sort, what), want[what]);
        }
    }

    private static void promise14() {
        TwoHeapsAlike x = Check.with(1, 2, 3);
        due("14 alike(-1, 0)", x.alike(-1, 0), -2);
        due("14 alike(3, 0)", x.alike(3, 0), -2);
        due("14 alike(0, -1)", x.alike(0, -1), -2);
        due("14 alike(0, 4)", x.alike(0, 4), -2);
        alike("none", new TwoHeapsAlike(), 0, 0, -1, -1, 0);
        alike("1 2 4", Check.with(1, 2, 4), 0, 0, -1, -1, 0);
        alike("1 2 3", x, 0, 2, 3, 4, 3);
        alike("1 2 3", x, 1, 0, -1, -1, 0);
        alike("1 4 2 3", Check.with(1, 4, 2, 3), 1, 2, 3, 12, 4);
        alike("1 4 2 3", Check.with(1, 4, 2, 3), 2, 0, -1, -1, 0);
        // 1 + 5 + 6 = 2 + 3 + 7, as their squares.
        alike("1 5 6 2 3 7", Check.with(1, 5, 6, 2, 3, 7), 2, 2, 7, 56, 6);
        alike("5 5 0", Check.with(5, 5, 0), 0, 6, 1, 2, 3);
        alike("5 5 0", Check.with(5, 5, 0), 1, 2, 1, 2, 2);
        // Of one SUM and of one SQUARES, but not as many CARDS.
        alike("5 5 0", Check.with(5, 5, 0), 2, 6, 1, 2, 3);
        x = new TwoHeapsAlike();
        x.card(20, 5);
        x.card(21, 5);
        x.card(20, 5);
        alike("BOUND ones", x, 0, 2, 1, 2, 2);
        alike("BOUND ones", x, 1, 2, 1, 2, 2);
        x = Check.with(1, 2);
        alike("1 2", x, 0, 0, -1, -1, 0);
        Check.force(x, "counts number + left; moves 1; asks 1;");
        x.lay(0, 1);
        alike("1 and 1 more, 2", x, 0, 2, 1, 2, 2);
    }

    private static void promise15() {
        due("15 three(-1)", Check.with(1).three(-1), -2);
        due("15 three(4)", Check.with(1).three(4), -2);
        due("15 none", Check.with(1, 2, 4).three(0), 0);
        for (int what = 1; what < 4; what++) {
            due("15 none: three(" + what + ")", Check.with(1, 2, 4).three(what), -1);
        }
        TwoHeapsAlike x = Check.with(5, 1, 5, 2, 3, 4);
        // 5; 5; 2 + 3 or 1 + 4; and 5; 1 + 4; 2 + 3 with either 5.
        due("15 how many", x.three(0), 4);
        due("15 the first", x.three(1), 1);
        due("15 the second", x.three(2), 4);
        due("15 the third", x.three(3), 24);
        x = new TwoHeapsAlike();
        x.card(20, 5);
        x.card(20, 5);
        x.card(20, 5);
        due("15 wherever they MAY lie", x.three(0), 1);
        due("15 all of 0", Check.with(0, 0, 0, 0).three(0), 10);
    }

    public static void main(String[] args) {
        promise11();
        promise12();
        promise13();
        promise14();
        promise15();
        check.end();
    }
}
