/** Promises 26 to 31: judge, blame, more, laws, film, seen. */
public final class ToldTest {
    private static final Check check = new Check("ToldTest");

    private static void due(String call, long got, long want) {
        check.due(call, got, want);
    }

    /** 3, 5, 7 and their rows in SHEET 0. */
    private static TwoHeapsAlike rows(int... row) {
        TwoHeapsAlike x = Check.with(3, 5, 7);
        Check.sheet(x, 0, row);
        return x;
    }

    private static void refusals() {
        TwoHeapsAlike x = Check.with(3, 5, 7);
        int[] bad = {-1, 4};
        for (int s : bad) {
            due("26 judge(" + s + ")", x.judge(s), -2);
            due("27 blame(" + s + ")", x.blame(s), -2);
            due("28 more(" + s + ", 0)", x.more(s, 0), TwoHeapsAlike.NO);
            due("29 laws(" + s + ")", x.laws(s), -2);
        }
        due("26 judge of a missing one", x.judge(0), -11);
        due("27 blame of a missing one", x.blame(0), -11);
        due("28 more of a missing one", x.more(0, 0), TwoHeapsAlike.NO);
        due("29 laws of a missing one", x.laws(0), -11);
        int[][] rows = {{1, 3, 2}, {8, 3}, {-1, 3}, {1, 4, 8, 1}};
        for (int[] row : rows) {
            x = rows(row);
            due("26 judge of what is no row", x.judge(0), -2);
            due("27 blame of what is no row", x.blame(0), -2);
            due("28 more of what is no row", x.more(0, 0), TwoHeapsAlike.NO);
            due("29 laws of what is no row", x.laws(0), -2);
        }
    }

    private static void promise26() {
        due("26 judge: no row", rows().judge(0), -1);
        due("26 judge: all so", rows(0, 0, 1, 3, 6, 12, 7, 15).judge(0), -1);
        due("26 judge: the first one", rows(0, 1, 1, 4).judge(0), 0);
        due("26 judge: the third one", rows(0, 0, 1, 3, 6, 11, 7, 14).judge(0), 2);
        TwoHeapsAlike x = Check.with(3, 5, 7);
        x.sheet(2, 0, 2);
        x.cell(2, 0, 3);
        x.cell(2, 1, 8);
        due("26 judge of bytes", x.judge(2), -1);
        x.cell(2, 1, 9);
        due("26 judge of bytes, not so", x.judge(2), 0);
        x = Check.with(3);
        Check.force(x, "counts number - 200 - 3 * left; moves 1; asks 1;");
        x.sheet(1, 1, 2);
        x.cell(1, 0, 1);
        x.cell(1, 1, -197);
        due("26 judge of shorts, by THE LAW", x.judge(1), -1);
        x.lay(0, 1);
        due("26 judge as all lie now", x.judge(1), 0);
        x.force(0);
        due("26 judge by another LAW", x.judge(1), 0);
    }

    private static void promise27() {
        due("27 blame: no row", rows().blame(0), 0);
        due("27 blame: all so", rows(1, 3, 6, 12).blame(0), 0);
        due("27 blame: one of two", rows(3, 10).blame(0), 3);
        due("27 blame: in both", rows(3, 10, 5, 12).blame(0), 1);
        due("27 blame: not by as much", rows(3, 10, 5, 13).blame(0), 0);
        due("27 blame: not what is in a right row", rows(3, 10, 1, 3).blame(0), 2);
        due("27 blame: none in a wrong row", rows(3, 10, 4, 8).blame(0), 0);
        due("27 blame: the empty one", rows(0, 1).blame(0), 0);
        due("27 blame: all in all", rows(7, 16).blame(0), 7);
    }

    private static void promise28() {
        TwoHeapsAlike x = rows(3, 10, 5, 12);
        due("28 more", x.more(0, 0), 2);
        due("28 more of another one", x.more(0, 1), TwoHeapsAlike.NO);
        due("28 more of no CARD", x.more(0, 3), TwoHeapsAlike.NO);
        due("28 more of CARD -1", x.more(0, -1), TwoHeapsAlike.NO);
        due("28 less", rows(3, 1).more(0, 1), -7);
        due("28 if all are so", rows(3, 8).more(0, 1), TwoHeapsAlike.NO);
        due("28 no row", rows().more(0, 1), TwoHeapsAlike.NO);
        due("28 the least int", rows(1, Integer.MIN_VALUE).more(0, 0), -2147483651L);
        x = rows(1, Integer.MAX_VALUE);
        Check.force(x, "counts -9; moves 1; asks 1;");
        due("28 beyond an int", x.more(0, 0), 2147483656L);
        due("28 beyond an int: blame", x.blame(0), 1);
        // What is refused and these can be told apart.
        due("28 more by BAD", rows(1, 1).more(0, 0), -2);
        due("28 more by -11", rows(1, -8).more(0, 0), -11);
        due("28 more of no CARD by a missing one", Check.with(3).more(0, 1), TwoHeapsAlike.NO);
        due("28 more on a new object", new TwoHeapsAlike().more(0, 0), TwoHeapsAlike.NO);
    }

    private static void promise29() {
        TwoHeapsAlike x = rows(1, 3, 6, 12);
        due("29 laws", x.laws(0), 1);
        Check.text(x, "counts 6 ; moves 1; asks 1;");
        Check.text(x, "counts 3 + 2 * card; moves 1; asks 1;");
        due("29 laws of three", x.laws(0), 5);
        x.force(1);
        due("29 laws, whichever THE LAW is", x.laws(0), 5);
        due("29 THE LAW stays", x.count(4), 1);
        Check.sheet(x, 0, 3, 12);
        due("29 laws: another one", x.laws(0), 2);
        Check.sheet(x, 0);
        due("29 laws: no row", x.laws(0), 7);
        Check.sheet(x, 0, 0, 1);
        due("29 laws: none", x.laws(0), 0);
    }

    private static void promise30() {
        TwoHeapsAlike x = Check.with(3, 5, 7);
        due("30 film(-1)", x.film(-1, 0, 1), -2);
        due("30 film(4)", x.film(4, 0, 1), -2);
        due("30 film: BAD ahead of -7", x.film(4, -1, 1), -2);
        due("30 film from no HEAP", x.film(0, 8, 1), -7);
        due("30 film from -1", x.film(0, -1, 1), -7);
        due("30 film of -1", x.film(0, 0, -1), -7);
        due("30 film of 21", x.film(0, 0, 21), -7);
        due("30 film: still missing", x.judge(0), -11);
        due("30 film of 3", x.film(0, 2, 3), 3);
        due("30 film is so", x.judge(0), -1);
        due("30 film: ints, as many", x.copy(0, 0, 0, 0, 6), 6);
        due("30 film: no more", x.copy(0, 0, 0, 0, 7), -12);
        due("30 film: its SUMS", x.blame(0), 0);
        int[] rows = {2, 5, 3, 8, 4, 7};
        for (int i = 0; i < 6; i++) {
            due("30 film: number " + i, Check.isNumber(x, 0, i, rows[i]), 1);
        }
        due("30 film: fewer", x.film(0, 6, 20), 2);
        due("30 film: fewer, its size", x.cell(0, 4, 0), -12);
        due("30 film of 0", x.film(0, 0, 0), 0);
        due("30 film of 0: there is one", x.cell(0, 0, 0), -12);
        for (int c = 3; c < 10; c++) {
            x.card(0, c);
        }
        x.sheet(3, 0, 1);
        due("30 film of 20", x.film(3, 0, 20), 20);
        due("30 film of 20: truly of ints", x.copy(3, 0, 3, 0, 40), 40);
        due("30 film of 20: so", x.judge(3), -1);
        Check.sheet(x, 2, 1);
        due("30 film of 20: of ints", x.copy(2, 0, 3, 0, 1), 1);
    }

    private static void promise31() {
        TwoHeapsAlike x = Check.with(1, 2, 3);
        due("31 seen(-1, 0)", x.seen(-1, 0), -2);
        due("31 seen(4, 0)", x.seen(4, 0), -2);
        due("31 seen(0, -1)", x.seen(0, -1), -2);
        due("31 seen(0, 2): BAD ahead of -11", x.seen(0, 2), -2);
        due("31 seen of a missing one", x.seen(0, 0), -11);
        Check.sheet(x, 0);
        due("31 seen of none", x.seen(0, 0), -1);
        due("31 seen of none together", x.seen(0, 1), 0);
        Check.sheet(x, 0, 3, 0, 3, 6, 5);
        due("31 seen", x.seen(0, 0), -1);
        due("31 seen together", x.seen(0, 1), 7);
        Check.sheet(x, 0, 3, 7, 1, -1);
        due("31 seen: the first one not", x.seen(0, 0), 1);
        due("31 seen together, but for these", x.seen(0, 1), 3);
        x.sheet(1, 0, 1);
        x.cell(1, 0, 256 + 3);
        due("31 seen in bytes", x.seen(1, 1), 2);
        x.card(40, 7);
        x.cell(1, 0, 255);
        due("31 seen in bytes, below 0", x.seen(1, 0), -1);
    }

    public static void main(String[] args) {
        refusals();
        promise26();
        promise27();
        promise28();
        promise29();
        promise30();
        promise31();
        check.end();
    }
}
