/** Promises 7 to 10: card, drop, lay, told. */
public final class CardsTest {
    private static final Check check = new Check("CardsTest");

    private static void due(String call, long got, long want) {
        check.due(call, got, want);
    }

    private static void promise7() {
        TwoHeapsAlike x = new TwoHeapsAlike();
        due("7 card(-1, 0)", x.card(-1, 0), -2);
        due("7 card(60, 0)", x.card(60, 0), -2);
        due("7 card(0, -1)", x.card(0, -1), -2);
        due("7 card(0, 1000)", x.card(0, 1000), -2);
        due("7 none came", x.count(0), 0);
        due("7 card(59, 999)", x.card(59, 999), 0);
        due("7 its KIND", x.told(0, 0), 5);
        due("7 its TOLD", x.told(0, 1), 999);
        due("7 its MORE", x.told(0, 2), 9);
        due("7 it comes ASIDE", x.told(0, 3), 0);
        for (int c = 1; c < 10; c++) {
            due("7 card " + c, x.card(c, 0), c);
        }
        due("7 the eleventh", x.card(0, 0), -4);
        due("7 BAD ahead of FULL", x.card(60, 0), -2);
        x.lay(9, 1);
        x.drop();
        due("7 another last one", x.card(10, 3), 9);
        due("7 it lies ASIDE, too", x.told(9, 3), 0);
    }

    private static void promise8() {
        TwoHeapsAlike x = Check.with(5, 6, 7);
        due("8 drop()", x.drop(), 2);
        due("8 the last one is none", x.told(2, 1), -10000);
        due("8 the others are", x.told(1, 1), 6);
        due("8 no such HEAP any more", x.heap(4, 0), -100000);
        due("8 drop() again", x.drop(), 1);
        due("8 drop() the first", x.drop(), 0);
        due("8 drop() of none", x.drop(), -3);
        due("8 none", x.count(0), 0);
    }

    private static void promise9() {
        TwoHeapsAlike x = new TwoHeapsAlike();
        x.card(0, 1);
        x.card(20, 1);
        x.card(21, 1);
        x.card(44, 1);
        x.card(45, 1);
        due("9 lay of no CARD", x.lay(5, 1), -5);
        due("9 lay of CARD -1", x.lay(-1, 1), -5);
        due("9 -5 ahead of -7", x.lay(5, 3), -5);
        due("9 side 3", x.lay(0, 3), -7);
        due("9 side -1", x.lay(0, -1), -7);
        due("9 to the LEFT", x.lay(0, 1), 0);
        due("9 to the RIGHT", x.lay(0, 2), 1);
        due("9 where it lies", x.lay(0, 2), 2);
        due("9 ASIDE", x.lay(0, 0), 2);
        due("9 BOUND, MORE even, RIGHT", x.lay(1, 2), -3);
        due("9 BOUND, MORE even, LEFT", x.lay(1, 1), 0);
        due("9 BOUND, MORE odd, LEFT", x.lay(2, 1), -3);
        due("9 BOUND, MORE odd, RIGHT", x.lay(2, 2), 0);
        due("9 BOUND ASIDE", x.lay(2, 0), 2);
        due("9 DEBT, MORE even, RIGHT", x.lay(3, 2), -3);
        due("9 DEBT, MORE even, LEFT", x.lay(3, 1), 0);
        due("9 DEBT, MORE odd, LEFT", x.lay(4, 1), -3);
        due("9 DEBT, MORE odd, RIGHT", x.lay(4, 2), 0);
        due("9 LEFT", x.count(1), 10);
        due("9 RIGHT", x.count(2), 16);
    }

    private static void kind(TwoHeapsAlike x, int c, int counts, int sides, int moving) {
        due("10 of CARD " + c + " COUNTS", x.told(c, 4), counts);
        due("10 of CARD " + c + " SIDES", x.told(c, 5), sides);
        due("10 of CARD " + c + " MOVING", x.told(c, 6), moving);
    }

    private static void promise10() {
        TwoHeapsAlike x = new TwoHeapsAlike();
        for (int kind = 0; kind < 6; kind++) {
            x.card(10 * kind + kind + 3, 100 + kind);
        }
        due("10 told of no CARD", x.told(6, 0), -10000);
        due("10 told of CARD -1", x.told(-1, 0), -10000);
        due("10 no CARD ahead of what", x.told(6, 7), -10000);
        due("10 told(0, 7)", x.told(0, 7), -20000);
        due("10 told(0, -1)", x.told(0, -1), -20000);
        for (int kind = 0; kind < 6; kind++) {
            due("10 KIND", x.told(kind, 0), kind);
            due("10 TOLD", x.told(kind, 1), 100 + kind);
            due("10 MORE", x.told(kind, 2), kind + 3);
            due("10 ASIDE", x.told(kind, 3), 0);
        }
        kind(x, 0, 100, 3, 1);
        kind(x, 1, 202, 3, 1);
        kind(x, 2, 102, 2, 4);
        kind(x, 3, 212, 3, 2);
        kind(x, 4, -104, 2, 4);
        kind(x, 5, 8, 3, 0);
        x.lay(0, 1);
        x.lay(2, 2);
        due("10 LEFT", x.told(0, 3), 1);
        due("10 RIGHT", x.told(2, 3), 2);
        Check.force(x, "counts 1000 - left; moves left + number; asks 1;");
        kind(x, 0, 999, 3, 99);
        kind(x, 1, 1998, 3, 99);
        kind(x, 2, 999, 2, 102);
        kind(x, 3, 2004, 3, 198);
        kind(x, 4, -999, 2, 102);
        kind(x, 5, 8, 3, 0);
        Check.force(x, "counts 10 + 5 * left; moves 20 + 5 * left; asks 1;");
        kind(x, 0, 15, 3, 25);
        kind(x, 1, 20, 3, 20);
        kind(x, 2, 10, 2, 23);
    }

    public static void main(String[] args) {
        promise7();
        promise8();
        promise9();
        promise10();
        check.end();
    }
}
