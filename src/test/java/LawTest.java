/** Promises 1 to 6: a new object, count, feed, text, force, asks. */
public final class LawTest {
    private static final int MIN = Integer.MIN_VALUE, MAX = Integer.MAX_VALUE;
    private static Check check;

    private static void due(String call, long got, long want) {
        check.due(call, got, want);
    }

    private static void promise1() {
        check.section("1");
        check.says("No CARDS.");
        TwoHeapsAlike x = new TwoHeapsAlike();
        due("count(0)", x.count(0), 0);
        due("told(0, 0)", x.told(0, 0), -10000);
        due("heap(0, 0)", x.heap(0, 0), 0);
        due("heap(1, 0)", x.heap(1, 0), -100000);
        due("drop()", x.drop(), -3);
        due("back()", x.back(), -3);
        due("seen(3, 0)", x.seen(3, 0), -11);
        x.card(0, 1);
        due("another one", new TwoHeapsAlike().count(0), 0);
    }

    /** Four CARDS, 0 and 2 to the LEFT, 3 to the RIGHT; TEXT 1 is THE LAW; three bytes. */
    private static TwoHeapsAlike some() {
        TwoHeapsAlike x = Given.cards(1, 2, 3, 4);
        Given.lay(x, 5, 8);
        Given.law(x, "counts 1; moves 1; asks 1;");
        Given.tape(x, "abc");
        return x;
    }

    /** Ten CARDS, six TEXTS, 160 bytes. */
    private static TwoHeapsAlike most() {
        TwoHeapsAlike x = Given.cards(1, 2, 3, 4, 5, 6, 7, 8, 9, 10);
        for (int t = 1; t < 6; t++) {
            Given.law(x, "counts 1;moves 1;asks 1;");
        }
        for (int i = 0; i < 32; i++) {
            x.feed(5, 1, 1, 1, 1, 1);
        }
        return x;
    }

    private static void counts(int what, int of, int ofSome, int ofMost) {
        due("new: count(" + what + ")", new TwoHeapsAlike().count(what), of);
        due("count(" + what + ")", some().count(what), ofSome);
        due("most: count(" + what + ")", most().count(what), ofMost);
    }

    private static void promise2() {
        check.section("2");
        check.says("0 CARDS,");
        counts(0, 0, 4, 10);
        check.says("1 what lies to the LEFT,");
        counts(1, 0, 5, 0);
        TwoHeapsAlike x = most();
        Given.lay(x, 1023, 0);
        due("all to the LEFT", x.count(1), 1023);
        due("all to the LEFT: to the RIGHT", x.count(2), 0);
        check.says("2 to the RIGHT (bits),");
        counts(2, 0, 8, 0);
        Given.lay(x, 0, 1023);
        due("all to the RIGHT", x.count(2), 1023);
        x.drop();
        due("all but the last one", x.count(2), 511);
        check.says("3 TEXTS,");
        counts(3, 1, 2, 6);
        check.says("4 THE LAW,");
        counts(4, 0, 1, 5);
        check.says("5 bytes of THE TAPE.");
        counts(5, 0, 3, 160);
        check.says("BAD.");
        for (int what : new int[] {-1, 6, MIN, MAX}) {
            due("count(" + what + ")", x.count(what), -2);
        }
    }

    private static void promise3() {
        check.section("3");
        check.says("The first n (1 .. 5) of five bytes (0 .. 255 each) come behind THE TAPE's, one by one: how many it has.");
        TwoHeapsAlike x = new TwoHeapsAlike();
        int all = 0;
        for (int n = 1; n <= 5; n++) {
            all += n;
            due("feed(" + n + ", ..)", x.feed(n, 0, 255, 0, 255, 255), all);
            due("count(5)", x.count(5), all);
        }
        x = new TwoHeapsAlike();
        String text = "counts 1;moves 2;asks 3;";
        for (int i = 0; i + 3 < text.length(); i += 4) {
            x.feed(4, text.charAt(i), text.charAt(i + 1), text.charAt(i + 2), text.charAt(i + 3), 255);
        }
        due("all but the fifth of five, in their order", x.text(), 1);
        check.says("BAD: n,");
        for (int n : new int[] {0, 6, -1, MIN, MAX}) {
            due("feed(" + n + ", ..)", x.feed(n, 1, 1, 1, 1, 1), -2);
        }
        due("none came", x.count(5), 0);
        check.says("any of the five;");
        for (int bad : new int[] {-1, 256, MIN, MAX}) {
            due("a", x.feed(1, bad, 0, 0, 0, 0), -2);
            due("b, which would not come", x.feed(1, 0, bad, 0, 0, 0), -2);
            due("c, which would not come", x.feed(2, 0, 0, bad, 0, 0), -2);
            due("d, which would not come", x.feed(3, 0, 0, 0, bad, 0), -2);
            due("e", x.feed(5, 0, 0, 0, 0, bad), -2);
        }
        due("none came", x.count(5), 0);
        check.says("FULL: they have not all room (none comes).");
        for (int i = 0; i < 31; i++) {
            x.feed(5, 32, 32, 32, 32, 32);
        }
        x.feed(2, 32, 32, 32, 32, 32);
        due("four at 157", x.feed(4, 1, 1, 1, 1, 1), -4);
        due("none of them came", x.count(5), 157);
        due("three at 157", x.feed(3, 1, 1, 1, 1, 1), 160);
        due("one at 160", x.feed(1, 1, 1, 1, 1, 1), -4);
        due("BAD ahead of FULL", x.feed(1, 300, 1, 1, 1, 1), -2);
        due("BAD by n ahead of FULL", x.feed(6, 1, 1, 1, 1, 1), -2);
        due("160 there are", x.count(5), 160);
        due("what came is as it was, the FAULT at place 157", x.text(), -257);
        due("room again", x.feed(5, 1, 1, 1, 1, 1), 5);
    }

    private static void faultLeavesNothing() {
        TwoHeapsAlike x = Given.cards(7);
        due("a FAULT far behind", Given.text(x, "counts 5 + 5; moves 6; asks -(-7); $"), -135);
        due("the next one", Given.text(x, "counts 1 + 1; moves 3; asks 4;"), 1);
        x.force(1);
        due("it counts as it says", x.asks(0, 0, 0), 2);
        due("it moves as it says", x.asks(1, 0, 0), 3);
        due("it asks as it says", x.asks(2, 0, 0), 4);
    }

    private static void promise4() {
        check.section("4");
        check.says("THE TAPE, which is empty then (by a FAULT, too), is a TEXT: its number;");
        TwoHeapsAlike x = Given.cards(7);
        due("text()", Given.text(x, "counts number + 1 ; moves 1 ; asks 1 ;"), 1);
        due("the tape is empty", x.count(5), 0);
        due("it isn't THE LAW", x.count(4), 0);
        due("a FAULT", Given.text(x, "counts $"), -107);
        due("the tape is empty by a FAULT, too", x.count(5), 0);
        due("a FAULT is no TEXT", x.count(3), 2);
        due("the next one", Given.text(x, "counts number + 2; moves 1; asks 1;"), 2);
        x.force(1);
        due("TEXT 1 is as it was", x.told(0, 4), 8);
        x.force(2);
        due("TEXT 2", x.told(0, 4), 9);
        faultLeavesNothing();
        check.says("-100 less the place of its FAULT.");
        due("of the empty tape", x.text(), -100);
        due("at place 0", Given.text(x, "$"), -100);
        due("at place 10", Given.text(x, "counts 1; $"), -110);
        due("at the last place of all", Given.text(x, " ".repeat(159) + "$"), -259);
        due("behind all", Given.text(x, " ".repeat(160)), -260);
        check.says("FULL (ahead of the FAULT; then THE TAPE stays).");
        for (int t = 3; t < 6; t++) {
            due("TEXT " + t, Given.text(x, "counts 1;moves\n1;asks 1;\n "), t);
        }
        due("a seventh", Given.text(x, "counts 1;moves 1;asks 1;"), -4);
        due("the tape stays", x.count(5), 24);
        due("FULL ahead of the FAULT", Given.text(x, "$"), -4);
        due("the tape stays, too", x.count(5), 25);
        due("six there are", x.count(3), 6);
    }

    private static void promise5() {
        check.section("5");
        check.says("A TEXT is THE LAW: which was.");
        TwoHeapsAlike x = Given.cards(7);
        Given.text(x, "counts 3; moves 4; asks 5;");
        Given.text(x, "counts 8; moves 8; asks 8;");
        due("force(2)", x.force(2), 0);
        due("it is THE LAW", x.count(4), 2);
        due("COUNTS", x.told(0, 4), 8);
        due("force(1)", x.force(1), 2);
        due("COUNTS by another", x.told(0, 4), 3);
        due("MOVING", x.told(0, 6), 4);
        due("asks", x.asks(2, 0, 0), 5);
        due("force(1) again", x.force(1), 1);
        due("force(0)", x.force(0), 1);
        due("COUNTS by TEXT 0", x.told(0, 4), 7);
        check.says("BAD.");
        for (int t : new int[] {3, -1, 6, MIN, MAX}) {
            due("force(" + t + ")", x.force(t), -2);
        }
        due("THE LAW is as it was", x.count(4), 0);
        due("force(1) of one TEXT", new TwoHeapsAlike().force(1), -2);
        due("force(0) of one TEXT", new TwoHeapsAlike().force(0), 0);
    }

    private static void promise6() {
        check.section("6");
        check.says("What part 0 counts, 1 moves, 2 asks says of a CARD (left: side 1, 0).");
        TwoHeapsAlike x = Given.kinds(0, 7, 40, 9);
        due("TEXT 0 counts", x.asks(0, 0, 0), 7);
        due("TEXT 0 moves", x.asks(1, 0, 0), 1);
        due("TEXT 0 asks", x.asks(2, 0, 0), 1);
        Given.law(x, "counts number + 100 * left; moves 20 + left; asks 30 + left + card;");
        for (int lies = 0; lies < 2; lies++) {
            x.lay(0, lies);
            due("counts, side 0", x.asks(0, 0, 0), 7);
            due("counts, side 1", x.asks(0, 0, 1), 107);
            due("moves, side 0", x.asks(1, 0, 0), 20);
            due("moves, side 1", x.asks(1, 0, 1), 21);
            due("asks, side 0", x.asks(2, 0, 0), 30);
            due("asks, side 1", x.asks(2, 0, 1), 31);
        }
        due("counts, whatever the KIND", x.asks(0, 1, 0), 9);
        due("moves, whatever the KIND", x.asks(1, 1, 0), 20);
        due("asks of another CARD", x.asks(2, 1, 1), 32);
        check.says("-10000: no such CARD;");
        for (int c : new int[] {2, -1, 10, MIN, MAX}) {
            due("asks(0, " + c + ", 0)", x.asks(0, c, 0), -10000);
        }
        due("ahead of part and side", x.asks(3, 2, 2), -10000);
        check.says("-20000: part,");
        for (int part : new int[] {3, -1, MIN, MAX}) {
            due("asks(" + part + ", 0, 0)", x.asks(part, 0, 0), -20000);
        }
        check.says("side.");
        for (int side : new int[] {2, -1, MIN, MAX}) {
            due("asks(0, 0, " + side + ")", x.asks(0, 0, side), -20000);
        }
    }

    public static void main(String[] args) throws Exception {
        check = new Check("LawTest", args[0], "1", "2", "3", "4", "5", "6");
        promise1();
        promise2();
        promise3();
        promise4();
        promise5();
        promise6();
        check.end();
    }
}
