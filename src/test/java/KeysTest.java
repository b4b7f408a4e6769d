/** Promises 20 to 25: unlike, next, spread, key, pigeon, question. */
public final class KeysTest {
    private static final int MIN = Integer.MIN_VALUE, MAX = Integer.MAX_VALUE;
    private static final int[] POWERS = {1, 2, 4, 8, 16, 32, 64, 128, 256, 512};
    private static Check check;

    private static void due(String call, long got, long want) {
        check.due(call, got, want);
    }

    /** 1 and 2, which COUNTS 7 more to the LEFT. */
    private static TwoHeapsAlike leftCounts(boolean left) {
        TwoHeapsAlike x = Given.cards(1, 2);
        Given.law(x, "counts number + 7 * left; moves 1; asks 1;");
        x.lay(1, left ? 1 : 2);
        return x;
    }

    private static void promise20() {
        check.section("20");
        check.says("What 0 whether SUMS of all HEAPS are unlike (1, 0),");
        due("of a new object", new TwoHeapsAlike().unlike(0), 1);
        due("0, as the empty one", Given.cards(0).unlike(0), 0);
        due("1", Given.cards(1).unlike(0), 1);
        due("1 2 4", Given.cards(1, 2, 4).unlike(0), 1);
        due("1 2 3", Given.cards(1, 2, 3).unlike(0), 0);
        due("3 5 6 7", Given.cards(3, 5, 6, 7).unlike(0), 1);
        due("5 and -5, as the empty one", Given.kinds(0, 5, 40, 5).unlike(0), 0);
        due("5 and -6", Given.kinds(0, 5, 40, 6).unlike(0), 1);
        due("1 to 512", Given.cards(POWERS).unlike(0), 1);
        TwoHeapsAlike x = Given.cards(2, 2);
        Given.law(x, "counts number + left; moves 1; asks 1;");
        due("2 2", x.unlike(0), 0);
        x.lay(0, 1);
        due("2 2, one of which COUNTS more to the LEFT", x.unlike(0), 1);
        check.says("1 how many unlike SUMS there are.");
        due("of a new object", new TwoHeapsAlike().unlike(1), 1);
        due("0", Given.cards(0).unlike(1), 1);
        due("1", Given.cards(1).unlike(1), 2);
        due("1 2 4", Given.cards(1, 2, 4).unlike(1), 8);
        due("1 2 3", Given.cards(1, 2, 3).unlike(1), 7);
        due("4 3 2 1", Given.cards(4, 3, 2, 1).unlike(1), 11);
        due("7 7 7 7", Given.cards(7, 7, 7, 7).unlike(1), 5);
        due("5 and -5", Given.kinds(0, 5, 40, 5).unlike(1), 3);
        due("1 to 512", Given.cards(POWERS).unlike(1), 1024);
        check.says("BAD.");
        for (int what : new int[] {-1, 2, MIN, MAX}) {
            due("unlike(" + what + ")", Given.cards(1).unlike(what), -2);
        }
    }

    private static void promise21() {
        check.section("21");
        check.says("The least number (1 .. 999) by which, did one CARD more COUNT it, SUMS of all HEAPS would be unlike;");
        due("of a new object", new TwoHeapsAlike().next(), 1);
        due("1", Given.cards(1).next(), 2);
        due("1 2", Given.cards(1, 2).next(), 4);
        due("3", Given.cards(3).next(), 1);
        due("3 5: 1 and 6 and 9 ..", Given.cards(3, 5).next(), 1);
        due("1 3: 4 is 1 + 3, 2 is 3 - 1", Given.cards(1, 3).next(), 5);
        due("-1", Given.kinds(40, 1).next(), 2);
        due("1 to 256", Given.cards(1, 2, 4, 8, 16, 32, 64, 128, 256).next(), 512);
        // How far SUMS of 1 3 9 .. 243 are apart: all of 1 .. 364; so with 634 more all of 1 .. 998.
        due("the greatest one", Given.cards(1, 3, 9, 27, 81, 243, 634).next(), 999);
        TwoHeapsAlike x = new TwoHeapsAlike();
        for (int number = 1; number < 512; number *= 2) {
            x.card(10, number);
        }
        due("2 to 512", x.next(), 1);
        due("by where they lie: to the LEFT", leftCounts(true).next(), 2);
        due("by where they lie: to the RIGHT", leftCounts(false).next(), 4);
        x = Given.cards(1, 1);
        Given.law(x, "counts (many - 1) * (card + 1); moves 1; asks 1;");
        due("SUMS as now: 1 and 2, not 2 and 4", x.next(), 4);
        x = Given.cards(1, 2, 4);
        due("1 2 4", x.next(), 8);
        x.drop();
        x.drop();
        due("1, behind 1 2 4", x.next(), 2);
        x.drop();
        x.card(0, 999);
        due("999", x.next(), 1);
        x.drop();
        for (int number : new int[] {1, 3, 9, 27, 81, 243, 634}) {
            x.card(0, number);
        }
        due("the greatest one, behind 999", x.next(), 999);
        check.says("-1: there is none");
        due("ten CARDS, 1 to 512", Given.cards(POWERS).next(), -1);
        due("none up to 999", Given.cards(1, 3, 9, 27, 81, 243, 635).next(), -1);
        check.says("(also if they are not now).");
        due("2 2", Given.cards(2, 2).next(), -1);
        due("0", Given.cards(0).next(), -1);
        due("500 1 1", Given.cards(500, 1, 1).next(), -1);
        due("5 and -5", Given.kinds(0, 5, 40, 5).next(), -1);
    }

    private static void promise22() {
        check.section("22");
        check.says("The first CARD that does not COUNT more than all of lesser numbers together");
        due("1 2 3 9", Given.cards(1, 2, 3, 9).spread(), 2);
        due("1 2 2 1", Given.cards(1, 2, 2, 1).spread(), 2);
        due("2 1", Given.cards(2, 1).spread(), 1);
        due("1 1, as much", Given.cards(1, 1).spread(), 1);
        due("1 and -5", Given.kinds(0, 1, 40, 5).spread(), 1);
        due("the last one of ten", Given.cards(1, 2, 4, 8, 16, 32, 64, 128, 256, 511).spread(), 9);
        due("by where they lie", leftCounts(true).spread(), -1);
        TwoHeapsAlike x = leftCounts(false);
        x.lay(0, 1);
        due("by where they lie: 8 and 2", x.spread(), 1);
        check.says("(0, if there are none);");
        due("0", Given.cards(0).spread(), 0);
        due("-5", Given.kinds(40, 5).spread(), 0);
        due("1", Given.cards(1).spread(), -1);
        check.says("-1: none.");
        due("of a new object", new TwoHeapsAlike().spread(), -1);
        due("1 2 4", Given.cards(1, 2, 4).spread(), -1);
        due("1 3 9", Given.cards(1, 3, 9).spread(), -1);
        due("1 to 512", Given.cards(POWERS).spread(), -1);
    }

    private static void promise23() {
        check.section("23");
        // 23 is 3 + 20 and 1 + 2 + 20.
        TwoHeapsAlike x = Given.cards(1, 2, 3, 20, 40);
        check.says("HEAPS of a SUM: what 0 how many,");
        due("key(23, 0)", x.key(23, 0), 2);
        due("key(0, 0)", x.key(0, 0), 1);
        due("key(66, 0)", x.key(66, 0), 1);
        due("key(67, 0)", x.key(67, 0), 0);
        due("of a new object: key(0, 0)", new TwoHeapsAlike().key(0, 0), 1);
        due("of a new object: key(1, 0)", new TwoHeapsAlike().key(1, 0), 0);
        due("ten of 0", Given.cards(0, 0, 0, 0, 0, 0, 0, 0, 0, 0).key(0, 0), 1024);
        due("with -3", Given.kinds(40, 3).key(-3, 0), 1);
        due("MIN", x.key(MIN, 0), 0);
        due("MAX", x.key(MAX, 0), 0);
        check.says("1 the first");
        due("key(23, 1)", x.key(23, 1), 11);
        due("key(0, 1), the empty one", x.key(0, 1), 0);
        due("key(66, 1)", x.key(66, 1), 31);
        check.says("(-1: there is none),");
        for (int sum : new int[] {67, -1, 7, MIN, MAX}) {
            due("key(" + sum + ", 1)", x.key(sum, 1), -1);
        }
        due("of a new object", new TwoHeapsAlike().key(1, 1), -1);
        check.says("2 CARDS that are in all of them,");
        due("key(23, 2)", x.key(23, 2), 8);
        due("key(0, 2)", x.key(0, 2), 0);
        due("key(66, 2)", x.key(66, 2), 31);
        due("key(3, 2)", x.key(3, 2), 0);
        check.says("3 CARDS that are in none");
        due("key(23, 3)", x.key(23, 3), 16);
        due("key(0, 3)", x.key(0, 3), 31);
        due("key(66, 3)", x.key(66, 3), 0);
        due("key(3, 3)", x.key(3, 3), 24);
        check.says("(bits; 0: there is none).");
        due("key(67, 2)", x.key(67, 2), 0);
        due("key(67, 3)", x.key(67, 3), 0);
        due("of a new object: key(1, 3)", new TwoHeapsAlike().key(1, 3), 0);
        check.says("BAD.");
        for (int what : new int[] {-1, 4, MIN, MAX}) {
            due("key(0, " + what + ")", x.key(0, what), -2);
            due("none, key(67, " + what + ")", x.key(67, what), -2);
        }
    }

    private static void promise24() {
        check.section("24");
        check.says("Two unlike HEAPS of one SUM, the lesser as bits first;");
        due("2 3 5: {0, 1}", Given.cards(2, 3, 5).pigeon(0), 3);
        due("2 3 5: {2}", Given.cards(2, 3, 5).pigeon(1), 4);
        due("0: the empty one", Given.cards(0).pigeon(0), 0);
        due("0: {0}", Given.cards(0).pigeon(1), 1);
        check.says("of all such the first:");
        due("4 1 2 3: {0}", Given.cards(4, 1, 2, 3).pigeon(0), 1);
        due("4 1 2 3: {1, 3}", Given.cards(4, 1, 2, 3).pigeon(1), 10);
        due("2 2 2: {0}", Given.cards(2, 2, 2).pigeon(0), 1);
        due("2 2 2: {1}", Given.cards(2, 2, 2).pigeon(1), 2);
        due("9 4 1 5 3: {0}", Given.cards(9, 4, 1, 5, 3).pigeon(0), 1);
        due("9 4 1 5 3: {1, 3}", Given.cards(9, 4, 1, 5, 3).pigeon(1), 10);
        due("8 3 3: {1}", Given.cards(8, 3, 3).pigeon(0), 2);
        check.says("what 0, 1 these");
        due("5 and -5: the empty one", Given.kinds(0, 5, 40, 5).pigeon(0), 0);
        due("5 and -5: both", Given.kinds(0, 5, 40, 5).pigeon(1), 3);
        due("1 to 511: the first", Given.cards(1, 2, 4, 8, 16, 32, 64, 128, 256, 511).pigeon(0), 511);
        due("1 to 511: the other", Given.cards(1, 2, 4, 8, 16, 32, 64, 128, 256, 511).pigeon(1), 512);
        TwoHeapsAlike x = Given.cards(2, 3);
        Given.law(x, "counts number + left; moves 1; asks 1;");
        x.lay(0, 1);
        due("as all lie now", x.pigeon(0), 1);
        check.says("(-1: there are none),");
        for (int what = 0; what < 2; what++) {
            due("of a new object: pigeon(" + what + ")", new TwoHeapsAlike().pigeon(what), -1);
            due("1 2 4: pigeon(" + what + ")", Given.cards(1, 2, 4).pigeon(what), -1);
            due("1 to 512: pigeon(" + what + ")", Given.cards(POWERS).pigeon(what), -1);
        }
        check.says("2 CARDS in both (0).");
        due("of a new object", new TwoHeapsAlike().pigeon(2), 0);
        due("1 2 4", Given.cards(1, 2, 4).pigeon(2), 0);
        due("4 1 2 3", Given.cards(4, 1, 2, 3).pigeon(2), 0);
        check.says("BAD.");
        for (int what : new int[] {-1, 3, MIN, MAX}) {
            due("pigeon(" + what + ")", Given.cards(1).pigeon(what), -2);
        }
    }

    private static void question(String of, TwoHeapsAlike x, int sum, int cost, int first) {
        due(of + ": question(" + sum + ", 0)", x.question(sum, 0), cost);
        due(of + ": question(" + sum + ", 1)", x.question(sum, 1), first);
    }

    /** As many CARDS that COUNT 1 as there are numbers, asking for which costs so much. */
    private static TwoHeapsAlike costing(int... costs) {
        TwoHeapsAlike x = new TwoHeapsAlike();
        for (int cost : costs) {
            x.card(0, cost);
        }
        Given.law(x, "counts 1; moves 1; asks number;");
        return x;
    }

    private static void promise25() {
        check.section("25");
        check.says("It is one of HEAPS of a SUM; asked for a CARD (which costs asks of it) one is told whether it is in it;");
        // {2} {0, 1}: any of the three tells it.
        question("1 2 3", Given.cards(1, 2, 3), 3, 1, 0);
        TwoHeapsAlike x = Given.cards(1, 2, 3);
        Given.law(x, "counts number; moves 1; asks 7 - 2 * card;");
        question("asks 7, 5, 3", x, 3, 3, 2);
        Given.law(x, "counts number; moves 1; asks 5 - 3 * left;");
        x.lay(1, 1);
        question("asks as they lie now", x, 3, 2, 1);
        check.says("what it costs at worst to know which, if always the best CARD is asked for (what 0;");
        // Which of three: 1 and then 2, at worst; or 2 and then 1.
        question("one of 1 5 2", costing(1, 5, 2), 1, 3, 0);
        question("one of 9 9 1 1", costing(9, 9, 1, 1), 1, 11, 0);
        // Six of two CARDS of four: one of two, of which one is told with three questions.
        question("two of 1 1 1 1", Given.cards(1, 1, 1, 1), 2, 3, 0);
        question("eight of one CARD each", Given.cards(1, 1, 1, 1, 1, 1, 1, 1, 2, 2), 1, 7, 0);
        question("free ones", costing(0, 0, 0), 1, 0, 0);
        question("dear ones", costing(99, 99, 99), 1, 198, 0);
        check.says("never one that parts nothing);");
        // CARD 0 costs nothing, but is in both, or in none.
        x = Given.kinds(0, 9, 5, 1, 5, 1);
        Given.law(x, "counts number; moves 1; asks more;");
        question("CARD 0 is in none", x, 1, 5, 1);
        question("CARD 0 is in both", x, 10, 5, 1);
        check.says("the CARD that is asked for first then, of like ones the first (1;");
        question("1 and four", Given.cards(9, 1, 1, 1, 1), 2, 3, 1);
        question("one of 3 1 1", costing(3, 1, 1), 1, 2, 1);
        question("one of 1 3 1", costing(1, 3, 1), 1, 2, 0);
        x = Given.cards(1, 2, 3, 4);
        question("{2} or {0, 1}", x, 3, 1, 0);
        question("{1, 2} or {0, 3}, behind another SUM", x, 5, 1, 0);
        check.says("-1: it is known at once).");
        question("of a new object", new TwoHeapsAlike(), 0, 0, -1);
        question("1", Given.cards(1), 1, 0, -1);
        question("1 2 3: all", Given.cards(1, 2, 3), 6, 0, -1);
        check.says("BAD;");
        for (int what : new int[] {-1, 2, MIN, MAX}) {
            due("question(0, " + what + ")", Given.cards(1).question(0, what), -2);
        }
        due("BAD ahead of -5", Given.cards(1).question(7, 2), -2);
        due("BAD ahead of FULL", Given.cards(0, 0, 0, 0).question(0, 2), -2);
        check.says("FULL: there are more than 12;");
        x = Given.cards(1, 1, 1, 1, 1, 2, 2, 9);
        due("twelve there are", x.key(2, 0), 12);
        // Ten of two of the first five, two of one: without CARD 0 there are eight, of which 1 is in three.
        question("twelve", x, 2, 5, 0);
        x = Given.cards(1, 1, 1, 1, 1, 2, 2, 2);
        due("thirteen there are", x.key(2, 0), 13);
        question("thirteen", x, 2, -4, -4);
        question("all 1024", Given.cards(0, 0, 0, 0, 0, 0, 0, 0, 0, 0), 0, -4, -4);
        check.says("-5: there is none.");
        question("of a new object", new TwoHeapsAlike(), 1, -5, -5);
        question("1 2 3", Given.cards(1, 2, 3), 7, -5, -5);
        question("1 2 3", Given.cards(1, 2, 3), MIN, -5, -5);
    }

    public static void main(String[] args) throws Exception {
        check = new Check("KeysTest", args[0], "20", "21", "22", "23", "24", "25");
        promise20();
        promise21();
        promise22();
        promise23();
        promise24();
        promise25();
        check.end();
    }
}
