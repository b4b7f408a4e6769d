/** Promises 16 to 19: fair, thirds, swap, mend. */
public final class PartedTest {
    private static final Check check = new Check("PartedTest");

    private static void due(String call, long got, long want) {
        check.due(call, got, want);
    }

    private static void fair(String of, TwoHeapsAlike x, int sort, int left, int far) {
        due("16 " + of + ": fair(" + sort + ", 0)", x.fair(sort, 0), left);
        due("16 " + of + ": fair(" + sort + ", 1)", x.fair(sort, 1), far);
    }

    private static void promise16() {
        TwoHeapsAlike x = Check.with(1);
        due("16 fair(-1, 0)", x.fair(-1, 0), -2);
        due("16 fair(2, 0)", x.fair(2, 0), -2);
        due("16 fair(0, -1)", x.fair(0, -1), -2);
        due("16 fair(0, 2)", x.fair(0, 2), -2);
        fair("none", new TwoHeapsAlike(), 0, 0, 0);
        fair("none", new TwoHeapsAlike(), 1, 0, 0);
        fair("1", x, 0, 0, 1);
        fair("1", x, 1, -1, -1);
        fair("1 2 3", Check.with(1, 2, 3), 0, 3, 0);
        fair("1 2 3", Check.with(1, 2, 3), 1, -1, -1);
        fair("1 2 3 6", Check.with(1, 2, 3, 6), 0, 7, 0);
        fair("1 2 3 6", Check.with(1, 2, 3, 6), 1, 6, 2);
        x = new TwoHeapsAlike();
        x.card(20, 9);
        x.card(20, 9);
        x.card(0, 3);
        fair("two BOUND to the LEFT", x, 0, 3, 15);
        x.card(0, 4);
        fair("two BOUND to the LEFT", x, 1, 3, 11);
        x.card(21, 1);
        x.card(20, 1);
        x.card(20, 1);
        x.card(20, 1);
        fair("too many BOUND to the LEFT", x, 1, -1, -1);
    }

    private static void thirds(String of, TwoHeapsAlike x, int first, int second, int far) {
        due("17 " + of + ": thirds(0)", x.thirds(0), first);
        due("17 " + of + ": thirds(1)", x.thirds(1), second);
        due("17 " + of + ": thirds(2)", x.thirds(2), far);
    }

    private static void promise17() {
        due("17 thirds(-1)", Check.with(1).thirds(-1), -2);
        due("17 thirds(3)", Check.with(1).thirds(3), -2);
        thirds("none", new TwoHeapsAlike(), 0, 0, 0);
        thirds("4", Check.with(4), 0, 0, 4);
        thirds("1 2 3 4 5", Check.with(1, 2, 3, 4, 5), 6, 9, 0);
        thirds("7 2 6", Check.with(7, 2, 6), 1, 2, 5);
        TwoHeapsAlike x = Check.with(5);
        x.card(40, 5);
        thirds("5 and -5", x, 0, 0, 0);
    }

    private static void promise18() {
        TwoHeapsAlike x = Check.with(10, 7, 1, 3);
        due("18 swap(-1)", x.swap(-1), -2);
        due("18 swap(2)", x.swap(2), -2);
        due("18 none on a side", x.swap(0), -1);
        due("18 none on a side: as now", x.swap(1), 0);
        Check.lay(x, 3, 12);
        // 17 to 4: 7 for 1 leaves 11 to 10, 10 for 3 leaves 10 to 11, which is as good but later told.
        due("18 swap(0)", x.swap(0), 3);
        due("18 swap(1)", x.swap(1), 1);
        Check.lay(x, 12, 3);
        due("18 swap(0), the LEFT one first", x.swap(0), 21);
        due("18 swap(1)", x.swap(1), 1);
        x = Check.with(5, 4);
        Check.lay(x, 1, 2);
        due("18 no nearer than now", x.swap(0), -1);
        due("18 as now", x.swap(1), 1);
        x = new TwoHeapsAlike();
        x.card(20, 9);
        x.card(0, 8);
        x.card(21, 1);
        x.card(0, 3);
        Check.lay(x, 3, 12);
        due("18 only as they MAY", x.swap(0), 13);
        due("18 only as they MAY: how far", x.swap(1), 3);
        x = Check.with(6, 2);
        Check.force(x, "counts number + 5 * left; moves 1; asks 1;");
        Check.lay(x, 1, 2);
        due("18 SUMS as they lie then: now", x.apart(), 9);
        due("18 SUMS as they lie then", x.swap(0), 1);
        due("18 SUMS as they lie then: how far", x.swap(1), 1);
        due("18 nothing is changed", x.apart(), 9);
        x = Check.with(3, 8, 2);
        Check.force(x, "counts number + card * left; moves 1; asks 1;");
        // 9 to 5: 8 (9 to the LEFT) for 3 leaves 3 to 10, for 2 leaves 4 to 11.
        Check.lay(x, 2, 5);
        due("18 none by where they lie then", x.swap(0), -1);
        Check.lay(x, 6, 1);
        // 13 to 3: 8 for 3 leaves 7 to 8, 2 for 3 leaves 12 to 2.
        due("18 the first CARD to the RIGHT", x.swap(0), 10);
        due("18 the first CARD to the RIGHT: how far", x.swap(1), 1);
    }

    private static void mend(String of, TwoHeapsAlike x, int most, int cost, int left) {
        due("19 " + of + ": mend(" + most + ", 0)", x.mend(most, 0), cost);
        due("19 " + of + ": mend(" + most + ", 1)", x.mend(most, 1), left);
    }

    private static void promise19() {
        TwoHeapsAlike x = Check.with(10, 7, 1, 3);
        due("19 mend(-1, 0)", x.mend(-1, 0), -2);
        due("19 mend(10000, 0)", x.mend(10000, 0), -2);
        due("19 mend(0, -1)", x.mend(0, -1), -2);
        due("19 mend(0, 2)", x.mend(0, 2), -2);
        mend("none on a side", x, 0, 0, 0);
        Check.lay(x, 15, 0);
        mend("all LEFT", x, 9999, 0, 15);
        mend("all LEFT", x, 21, 0, 15);
        mend("all LEFT", x, 20, 1, 7);
        mend("all LEFT", x, 1, 1, 14);
        mend("all LEFT", x, 0, -1, -1);
        Check.force(x, "counts number; moves number * left + 1; asks 1;");
        mend("dear ones", x, 1, 11, 14);
        x = Check.with(4, 4);
        x.lay(0, 1);
        mend("one ASIDE", x, 3, -1, -1);
        mend("one ASIDE", x, 4, 0, 1);
        x = new TwoHeapsAlike();
        x.card(20, 8);
        x.card(0, 5);
        x.card(0, 3);
        Check.lay(x, 7, 0);
        mend("one BOUND", x, 0, 2, 1);
        x = Check.with(6, 2, 3);
        Check.force(x, "counts number + 2 * left; moves 3; asks 1;");
        Check.lay(x, 7, 0);
        mend("SUMS as they lie now", x, 1, 3, 6);
        x = Check.with(2, 2);
        Check.force(x, "counts number; moves 0; asks 1;");
        Check.lay(x, 2, 1);
        mend("of like ones the first", x, 0, 0, 1);
    }

    public static void main(String[] args) {
        promise16();
        promise17();
        promise18();
        promise19();
        check.end();
    }
}
