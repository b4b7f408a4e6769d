/** Promises 7 to 10: card, drop, lay, told. */
public final class CardsTest {
    private static final int MIN = Integer.MIN_VALUE, MAX = Integer.MAX_VALUE;
    private static Check check;

    private static void due(String call, long got, long want) {
        check.due(call, got, want);
    }

    private static void promise7() {
        check.section("7");
        check.says("A CARD (kindMore: 10 times KIND, and MORE; TOLD): its number.");
        TwoHeapsAlike x = new TwoHeapsAlike();
        int[][] cards = {{0, 0}, {9, 999}, {10, 1}, {27, 500}, {59, 998}};
        for (int c = 0; c < cards.length; c++) {
            due("card(" + cards[c][0] + ", " + cards[c][1] + ")", x.card(cards[c][0], cards[c][1]), c);
            due("its KIND", x.told(c, 0), cards[c][0] / 10);
            due("its TOLD", x.told(c, 1), cards[c][1]);
            due("its MORE", x.told(c, 2), cards[c][0] % 10);
            due("it lies ASIDE", x.told(c, 3), 0);
        }
        check.says("BAD;");
        for (int kindMore : new int[] {-1, 60, MIN, MAX}) {
            due("card(" + kindMore + ", 0)", x.card(kindMore, 0), -2);
        }
        for (int number : new int[] {-1, 1000, MIN, MAX}) {
            due("card(0, " + number + ")", x.card(0, number), -2);
        }
        due("none came", x.count(0), 5);
        check.says("FULL.");
        for (int c = 5; c < 10; c++) {
            due("card " + c, x.card(0, 0), c);
        }
        due("the eleventh", x.card(0, 0), -4);
        due("BAD ahead of FULL", x.card(60, 0), -2);
        due("BAD ahead of FULL by TOLD", x.card(0, 1000), -2);
        due("ten there are", x.count(0), 10);
        x.lay(9, 1);
        x.drop();
        due("another last one", x.card(10, 3), 9);
        due("it lies ASIDE, too", x.told(9, 3), 0);
    }

    private static void promise8() {
        check.section("8");
        check.says("The last CARD is none any more: how many there are.");
        TwoHeapsAlike x = Given.cards(5, 6, 7);
        Given.lay(x, 4, 3);
        due("drop()", x.drop(), 2);
        due("the last one is none", x.told(2, 1), -10000);
        due("nor does it lie anywhere", x.count(1), 0);
        due("the others are as they were", x.told(1, 1), 6);
        due("and lie as they did", x.count(2), 3);
        due("no such HEAP any more", x.heap(4, 0), -100000);
        due("drop() again", x.drop(), 1);
        due("drop() the first", x.drop(), 0);
        check.says("STATE: there is none.");
        due("drop()", x.drop(), -3);
        due("none", x.count(0), 0);
        due("drop() of a new object", new TwoHeapsAlike().drop(), -3);
    }

    private static void promise9() {
        check.section("9");
        check.says("A CARD lies ASIDE (0), to the LEFT (1), to the RIGHT (2): where it lay.");
        TwoHeapsAlike x = Given.kinds(0, 1, 20, 1, 21, 1, 44, 1, 45, 1);
        int[] sides = {1, 2, 2, 0, 0, 2, 1, 1, 0};
        int lay = 0;
        for (int side : sides) {
            due("lay(0, " + side + ")", x.lay(0, side), lay);
            due("where it lies", x.told(0, 3), side);
            lay = side;
        }
        due("LEFT", x.lay(1, 1), 0);
        due("RIGHT", x.lay(2, 2), 0);
        due("what lies to the LEFT", x.count(1), 2);
        due("what lies to the RIGHT", x.count(2), 4);
        check.says("-5: no such CARD;");
        for (int c : new int[] {5, -1, 10, MIN, MAX}) {
            due("lay(" + c + ", 1)", x.lay(c, 1), -5);
        }
        due("-5 ahead of -7", x.lay(5, 3), -5);
        due("of a new object", new TwoHeapsAlike().lay(0, 0), -5);
        check.says("-7: side;");
        for (int side : new int[] {3, -1, 4, MIN, MAX}) {
            due("lay(0, " + side + ")", x.lay(0, side), -7);
            due("-7 ahead of STATE: lay(1, " + side + ")", x.lay(1, side), -7);
        }
        due("it lies as it did", x.told(1, 3), 1);
        check.says("STATE: it MAY not lie there.");
        x = Given.kinds(0, 1, 20, 1, 21, 1, 44, 1, 45, 1);
        due("BOUND, MORE even, RIGHT", x.lay(1, 2), -3);
        due("BOUND, MORE even, LEFT", x.lay(1, 1), 0);
        due("BOUND, MORE odd, LEFT", x.lay(2, 1), -3);
        due("BOUND, MORE odd, RIGHT", x.lay(2, 2), 0);
        due("DEBT, MORE even, RIGHT", x.lay(3, 2), -3);
        due("DEBT, MORE even, LEFT", x.lay(3, 1), 0);
        due("DEBT, MORE odd, LEFT", x.lay(4, 1), -3);
        due("DEBT, MORE odd, RIGHT", x.lay(4, 2), 0);
        due("LEFT", x.count(1), 10);
        due("RIGHT", x.count(2), 20);
        due("it lies as it did: BOUND, RIGHT", x.lay(1, 2), -3);
        due("it lies as it did", x.told(1, 3), 1);
        due("ASIDE all MAY lie", x.lay(1, 0), 1);
        due("DEBT, too", x.lay(4, 0), 2);
        for (int kindMore : new int[] {1, 11, 31, 51, 50}) {
            x = Given.kinds(kindMore, 1);
            due("on both SIDES: LEFT, card(" + kindMore + ", 1)", x.lay(0, 1), 0);
            due("on both SIDES: RIGHT, card(" + kindMore + ", 1)", x.lay(0, 2), 1);
        }
    }

    private static void each(TwoHeapsAlike x, int what, int... want) {
        for (int c = 0; c < want.length; c++) {
            due("told(" + c + ", " + what + ")", x.told(c, what), want[c]);
        }
    }

    private static void promise10() {
        check.section("10");
        TwoHeapsAlike x = Given.kinds(3, 100, 14, 101, 25, 102, 36, 103, 47, 104, 58, 105);
        check.says("Of a CARD what 0 KIND,");
        each(x, 0, 0, 1, 2, 3, 4, 5);
        check.says("1 TOLD,");
        each(x, 1, 100, 101, 102, 103, 104, 105);
        check.says("2 MORE,");
        each(x, 2, 3, 4, 5, 6, 7, 8);
        check.says("3 where it lies (as of lay()),");
        each(x, 3, 0, 0, 0, 0, 0, 0);
        Given.lay(x, 11, 20);
        each(x, 3, 1, 1, 2, 1, 2, 0);
        check.says("4 how much it COUNTS,");
        each(x, 4, 100, 202, 102, 212, -104, 8);
        Given.law(x, "counts 1000 - left; moves left + number; asks 1;");
        each(x, 4, 999, 1998, 999, 2004, -999, 8);
        Given.law(x, "counts 10 - 20 * left; moves 20 - 30 * left; asks 1;");
        each(x, 4, -10, -20, 10, -14, -10, 8);
        check.says("5 SIDES,");
        each(x, 5, 3, 3, 2, 3, 2, 3);
        due("of a BOUND with MORE 4", Given.kinds(24, 1).told(0, 5), 1);
        check.says("6 what MOVING it costs (0 .. 999, else the bound).");
        x.force(0);
        each(x, 6, 1, 1, 4, 2, 4, 0);
        x.force(1);
        each(x, 6, 99, 99, 102, 198, 102, 0);
        x.force(2);
        each(x, 6, 0, 0, 23, 0, 23, 0);
        x.lay(0, 2);
        due("of one to the RIGHT then", x.told(0, 6), 20);
        check.says("-10000: no such CARD;");
        for (int c : new int[] {6, -1, 10, MIN, MAX}) {
            due("told(" + c + ", 0)", x.told(c, 0), -10000);
        }
        due("ahead of what", x.told(6, 7), -10000);
        check.says("-20000: what.");
        for (int what : new int[] {7, -1, MIN, MAX}) {
            due("told(0, " + what + ")", x.told(0, what), -20000);
        }
    }

    public static void main(String[] args) throws Exception {
        check = new Check("CardsTest", args[0], "7", "8", "9", "10");
        promise7();
        promise8();
        promise9();
        promise10();
        check.end();
    }
}
