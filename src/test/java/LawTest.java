/** Promises 1 to 6: a new object, count, feed, text, force, asks. */
public final class LawTest {
    private static final Check check = new Check("LawTest");

    private static void due(String call, long got, long want) {
        check.due(call, got, want);
    }

    private static void promise1() {
        TwoHeapsAlike x = new TwoHeapsAlike();
        due("1 new: count(0)", x.count(0), 0);
        due("1 new: told(0, 0)", x.told(0, 0), -10000);
        due("1 new: heap(0, 0)", x.heap(0, 0), 0);
        due("1 new: heap(1, 0)", x.heap(1, 0), -100000);
        due("1 new: drop()", x.drop(), -3);
        due("1 new: back()", x.back(), -3);
        due("1 new: seen(3, 0)", x.seen(3, 0), -11);
    }

    private static void promise2() {
        TwoHeapsAlike x = new TwoHeapsAlike();
        due("2 new: count(1)", x.count(1), 0);
        due("2 new: count(2)", x.count(2), 0);
        due("2 new: count(3)", x.count(3), 1);
        due("2 new: count(4)", x.count(4), 0);
        due("2 new: count(5)", x.count(5), 0);
        due("2 count(-1)", x.count(-1), -2);
        due("2 count(6)", x.count(6), -2);
        x = Check.with(1, 2, 3, 4);
        Check.lay(x, 5, 8);
        Check.force(x, "counts 1; moves 1; asks 1;");
        Check.tape(x, "abc");
        due("2 count(0)", x.count(0), 4);
        due("2 count(1)", x.count(1), 5);
        due("2 count(2)", x.count(2), 8);
        due("2 count(3)", x.count(3), 2);
        due("2 count(4)", x.count(4), 1);
        due("2 count(5)", x.count(5), 3);
    }

    private static void promise3() {
        TwoHeapsAlike x = new TwoHeapsAlike();
        due("3 feed(0)", x.feed(0, 1, 1, 1, 1, 1), -2);
        due("3 feed(6)", x.feed(6, 1, 1, 1, 1, 1), -2);
        due("3 feed(1, -1)", x.feed(1, -1, 0, 0, 0, 0), -2);
        due("3 feed(1, 256)", x.feed(1, 256, 0, 0, 0, 0), -2);
        due("3 feed(1, .. b)", x.feed(1, 0, 256, 0, 0, 0), -2);
        due("3 feed(1, .. c)", x.feed(1, 0, 0, -1, 0, 0), -2);
        due("3 feed(1, .. d)", x.feed(1, 0, 0, 0, 256, 0), -2);
        due("3 feed(1, .. e)", x.feed(1, 0, 0, 0, 0, -1), -2);
        due("3 feed: none came", x.count(5), 0);
        due("3 feed(5)", x.feed(5, 0, 255, 1, 2, 3), 5);
        due("3 feed(2)", x.feed(2, 9, 9, 9, 9, 9), 7);
        for (int i = 0; i < 30; i++) {
            x.feed(5, 32, 32, 32, 32, 32);
        }
        due("3 feed(4) at 157", x.feed(4, 1, 1, 1, 1, 1), -4);
        due("3 feed: none of the four came", x.count(5), 157);
        due("3 feed(3) at 157", x.feed(3, 1, 1, 1, 1, 1), 160);
        due("3 feed(1) at 160", x.feed(1, 1, 1, 1, 1, 1), -4);
        due("3 feed: BAD ahead of FULL", x.feed(1, 300, 1, 1, 1, 1), -2);
        x = new TwoHeapsAlike();
        String text = "counts 1;moves 2;asks 3;";
        for (int i = 0; i + 3 < text.length(); i += 4) {
            x.feed(4, text.charAt(i), text.charAt(i + 1), text.charAt(i + 2), text.charAt(i + 3), 255);
        }
        due("3 feed: one by one, behind the others", x.text(), 1);
    }

    private static void fault(String text, int place) {
        due("4 text of '" + text + "'", Check.text(new TwoHeapsAlike(), text), -100 - place);
    }

    private static void faultOfCounts(String expression, int place) {
        fault("counts " + expression + "; moves 1; asks 1;", 7 + place);
    }

    private static void promise4() {
        TwoHeapsAlike x = new TwoHeapsAlike();
        due("4 text", Check.text(x, "counts number ; moves 1 ; asks 1 ;"), 1);
        due("4 text: the tape is empty then", x.count(5), 0);
        due("4 text: it isn't THE LAW", x.count(4), 0);
        due("4 text: the tape is empty by a FAULT", Check.text(x, "counts $"), -107);
        due("4 text: empty by a FAULT", x.count(5), 0);
        due("4 text: a FAULT is no TEXT", x.count(3), 2);
        for (int t = 2; t < 6; t++) {
            due("4 text " + t, Check.text(x, "counts 1;moves\n1;asks 1;\n "), t);
        }
        due("4 text: FULL", Check.text(x, "counts 1;moves 1;asks 1;"), -4);
        due("4 text: the tape stays", x.count(5), 24);
        due("4 text: FULL ahead of the FAULT", Check.text(x, "$"), -4);
        due("4 text: the tape stays, too", x.count(5), 25);
        fault("", 0);
        fault(" \n ", 3);
        fault("counts", 6);
        fault("counts  ", 8);
        fault("moves 1;", 0);
        fault("counts 1; asks 1;", 10);
        fault("counts 1; moves 1; asks 1", 25);
        fault("counts 1; moves 1; asks 1 ; ;", 28);
        fault("counts 1; moves 1; asks 1; counts", 27);
        fault("counts 1; moves 1; asks 1;\0", 26);
        fault("counts 1; moves 1; asks 1; \u00ff", 27);
        fault("counts1;moves 1;asks 1;x", 23);
        fault("countsnumber; moves 1; asks 1;", 0);
        due("4 text without blanks", Check.text(new TwoHeapsAlike(), "counts 1;moves 1;asks 1;"), 1);
        due("4 text: a NUMBER beside a WORD", Check.text(new TwoHeapsAlike(), "counts1or 2and not3;moves1;asks1;"), 1);
        faultOfCounts("", 0);
        faultOfCounts("1 2", 2);
        faultOfCounts("1 number", 2);
        faultOfCounts("foo", 0);
        faultOfCounts("xumber", 0);
        faultOfCounts("numbes", 0);
        faultOfCounts("1 + numbers", 4);
        faultOfCounts("12345", 0);
        faultOfCounts("1+00001", 2);
        faultOfCounts("1, 2", 1);
        faultOfCounts("1 /2", 2);
        faultOfCounts("1\t+ 2", 1);
        faultOfCounts("Number", 0);
        faultOfCounts("1 < 2 < 3", 6);
        faultOfCounts("1 = 2 = 3", 6);
        faultOfCounts("1 < not 2", 4);
        faultOfCounts("1 + not 2", 4);
        faultOfCounts("- not 2", 2);
        faultOfCounts("1 or or 2", 5);
        faultOfCounts("and 1", 0);
        faultOfCounts("+ 1", 0);
        faultOfCounts("* 1", 0);
        faultOfCounts("(1", 2);
        faultOfCounts("1)", 1);
        faultOfCounts("()", 1);
        faultOfCounts("counts", 0);
    }

    private static void promise4Open() {
        String end = "; moves 1; asks 1;";
        TwoHeapsAlike x = new TwoHeapsAlike();
        due("4 five (", Check.text(x, "counts (((((1)))))" + end), 1);
        due("4 five -", Check.text(x, "counts 1 - - - - - - 1" + end), 2);
        due("4 five not", Check.text(x, "counts not not not not not 1" + end), 3);
        due("4 five again and again", Check.text(x, "counts ((((-1)+-1)*-1)or not 1)+(((((1)))))" + end), 4);
        due("4 not and - till what they belong to ends",
            Check.text(x, "counts ((not(-1<2)and not(not 1)))and -----1-----1" + end), 5);
        faultOfCounts("((((((1))))))", 5);
        faultOfCounts("------1", 5);
        faultOfCounts("not not not not not not 1", 20);
        faultOfCounts("(not(-(-(1", 7);
        faultOfCounts("not not not not not - 1", 20);
        faultOfCounts("not not not not not 1 < -1", 24);
        faultOfCounts("not not not not not (1)", 20);
        faultOfCounts("(((((not 1)))))", 5);
        due("4 - between two is none", Check.text(new TwoHeapsAlike(), "counts (((((1-1-1)))))" + end), 1);
    }

    private static void promise5() {
        TwoHeapsAlike x = Check.with(7);
        due("5 force(1) of one", x.force(1), -2);
        due("5 force(-1)", x.force(-1), -2);
        due("5 force(0)", x.force(0), 0);
        Check.text(x, "counts 3; moves 4; asks 5;");
        Check.text(x, "counts 8; moves 8; asks 8;");
        due("5 force(2)", x.force(2), 0);
        due("5 force: COUNTS", x.told(0, 4), 8);
        due("5 force(1)", x.force(1), 2);
        due("5 force: COUNTS by another", x.told(0, 4), 3);
        due("5 force: MOVING", x.told(0, 6), 4);
        due("5 force(3)", x.force(3), -2);
        due("5 force: as it was", x.count(4), 1);
        due("5 force(0) again", x.force(0), 1);
        due("5 force: TEXT 0", x.told(0, 4), 7);
    }

    private static int value(TwoHeapsAlike x, String expression, int c, int side) {
        Check.force(x, "counts " + expression + "; moves 1; asks 1;");
        return x.asks(0, c, side);
    }

    private static void says(String expression, int want) {
        TwoHeapsAlike x = new TwoHeapsAlike();
        x.card(0, 5);
        x.card(37, 40);
        x.card(0, 6);
        x.card(0, 8);
        due("6 '" + expression + "' of CARD 1", value(x, expression, 1, 1), want);
    }

    private static void promise6() {
        TwoHeapsAlike x = Check.with(7);
        due("6 asks of no CARD", x.asks(0, 1, 0), -10000);
        due("6 asks of CARD -1", x.asks(0, -1, 0), -10000);
        due("6 asks: no such CARD ahead of part", x.asks(3, 1, 2), -10000);
        due("6 asks(3, ..)", x.asks(3, 0, 0), -20000);
        due("6 asks(-1, ..)", x.asks(-1, 0, 0), -20000);
        due("6 asks: side 2", x.asks(0, 0, 2), -20000);
        due("6 asks: side -1", x.asks(0, 0, -1), -20000);
        due("6 asks(0)", x.asks(0, 0, 0), 7);
        due("6 asks(1)", x.asks(1, 0, 0), 1);
        due("6 asks(2)", x.asks(2, 0, 0), 1);
        says("number", 40);
        says("more", 7);
        says("card", 1);
        says("many", 4);
        says("kind", 3);
        says("left", 1);
        says("0012", 12);
        says("2 + 3 * 4", 14);
        says("(2 + 3) * 4", 20);
        says("10 - 3 - 2", 5);
        says("-3 + 5", 2);
        says("- - 3", 3);
        says("-2 * -3", 6);
        says("2 < 3", 1);
        says("3 < 3", 0);
        says("3 = 3", 1);
        says("3 = 4", 0);
        says("-1 < 0", 1);
        says("not 5", 0);
        says("not 0", 1);
        says("not 1 < 2", 0);
        says("not not 5", 1);
        says("5 and 7", 1);
        says("1 and 7", 1);
        says("5 and 0", 0);
        says("0 and 5", 0);
        says("0 or 7", 1);
        says("0 or 0", 0);
        says("1 or 0 and 0", 1);
        says("0 and 0 or 1", 1);
        says("1 + 1 = 2", 1);
        says("(1 or 0) + 5", 6);
        says("9999", 999);
        says("-9999", -999);
        says("999", 999);
        says("1000", 999);
        says("-1000", -999);
        // 9999 * 9999 * 43 = 4299140043, which is 4172747 beyond 2 to the 32nd.
        says("9999 * 9999 * 43 = 4172 * 1000 + 747", 1);
        says("9999 * 9999 * 22 < 0", 1);
        Check.force(x, "counts left * 5 + 1; moves 100 - left; asks left - 2 + 300 * left;");
        due("6 counts to the LEFT", x.asks(0, 0, 1), 6);
        due("6 counts elsewhere", x.asks(0, 0, 0), 1);
        due("6 moves up to 99", x.asks(1, 0, 0), 99);
        due("6 moves 99", x.asks(1, 0, 1), 99);
        due("6 asks from 0 on", x.asks(2, 0, 0), 0);
        due("6 asks up to 99", x.asks(2, 0, 1), 99);
        x.card(40, 9);
        Check.force(x, "counts number; moves 5; asks 7;");
        due("6 what the text says, whatever the KIND", x.asks(0, 1, 0), 9);
        due("6 moves, whatever the KIND", x.asks(1, 1, 0), 5);
        due("6 asks", x.asks(2, 1, 0), 7);
    }

    public static void main(String[] args) {
        promise1();
        promise2();
        promise3();
        promise4();
        promise4Open();
        promise5();
        promise6();
        check.end();
    }
}
