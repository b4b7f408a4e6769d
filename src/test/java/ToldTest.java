/** Promises 26 to 31: judge, blame, more, laws, film, seen. */
public final class ToldTest {
    private static final int MIN = Integer.MIN_VALUE, MAX = Integer.MAX_VALUE;
    private static final long NO = TwoHeapsAlike.NO;
    private static final int[] NO_SHEETS = {-1, 4, MIN, MAX};
    private static Check check;

    private static void due(String call, long got, long want) {
        check.due(call, got, want);
    }

    /** 3, 5, 7 and these rows in SHEET 0. */
    private static TwoHeapsAlike rows(int... row) {
        TwoHeapsAlike x = Given.cards(3, 5, 7);
        Given.sheet(x, 0, row);
        return x;
    }

    private interface Told {
        long of(TwoHeapsAlike x, int s);
    }

    private static void refusedSheets(String call, Told told, long want) {
        for (int s : NO_SHEETS) {
            due(call + "(" + s + ")", told.of(rows(1, 3), s), want);
        }
    }

    private static void refusedMissing(String call, Told told, long want) {
        due(call + " of a missing one", told.of(Given.cards(3, 5, 7), 0), want);
        due(call + " of a missing one, without CARDS", told.of(new TwoHeapsAlike(), 3), want);
        TwoHeapsAlike x = rows(1, 3);
        x.sheet(0, -1, 0);
        due(call + " of one that is missing again", told.of(x, 0), want);
    }

    private static void refusedSizes(String call, Told told, long want) {
        due(call + " of one number", told.of(rows(1), 0), want);
        due(call + " of three", told.of(rows(1, 3, 2), 0), want);
        due(call + " of 39", told.of(rows(new int[39]), 0), want);
    }

    private static void refusedHeaps(String call, Told told, long want) {
        due(call + " of HEAP 8", told.of(rows(8, 3), 0), want);
        due(call + " of HEAP -1", told.of(rows(-1, 3), 0), want);
        due(call + " of HEAP MIN", told.of(rows(MIN, 3), 0), want);
        due(call + " of HEAP MAX", told.of(rows(MAX, 3), 0), want);
        due(call + " of HEAP 8 behind a right row", told.of(rows(1, 3, 8, 1), 0), want);
        due(call + " of HEAP 8 behind a wrong row", told.of(rows(1, 4, 8, 1), 0), want);
        TwoHeapsAlike x = rows(4, 8);
        x.drop();
        due(call + " of HEAP 4 of two CARDS", told.of(x, 0), want);
    }

    private static void refused(String call, Told told, long missing, long bad) {
        refusedSheets(call, told, bad);
        refusedMissing(call, told, missing);
        refusedSizes(call, told, bad);
        refusedHeaps(call, told, bad);
    }

    private static void promise26() {
        check.section("26");
        check.says("A SHEET tells rows of two, a HEAP, its SUM: the first row (from 0) that is not so;");
        due("row 0", rows(0, 1, 1, 4).judge(0), 0);
        due("row 0 alone", rows(7, 16).judge(0), 0);
        due("row 2 of four", rows(0, 0, 1, 3, 6, 11, 7, 14).judge(0), 2);
        due("row 19", twentyRows(7, 16).judge(0), 19);
        TwoHeapsAlike x = rows(1, 3, 1, 4);
        Given.sheet(x, 0, 1, 3);
        due("a row that is none any more", x.judge(0), -1);
        x = Given.cards(3, 5, 7);
        x.sheet(2, 0, 2);
        x.cell(2, 0, 3);
        x.cell(2, 1, 9);
        due("of bytes", x.judge(2), 0);
        x = Given.cards(3);
        Given.law(x, "counts number - 200 - 3 * left; moves 1; asks 1;");
        x.sheet(1, 1, 2);
        x.cell(1, 0, 1);
        x.cell(1, 1, -197);
        due("of shorts, by THE LAW", x.judge(1), -1);
        x.lay(0, 1);
        due("as all lie now", x.judge(1), 0);
        x.force(0);
        due("by another LAW", x.judge(1), 0);
        check.says("-1: none.");
        due("no row", rows().judge(0), -1);
        due("no row, without CARDS", emptyRow().judge(0), -1);
        due("all so", rows(0, 0, 1, 3, 6, 12, 7, 15).judge(0), -1);
        due("one twice", rows(6, 12, 6, 12).judge(0), -1);
        due("twenty rows", twentyRows(7, 15).judge(0), -1);
        check.says("BAD: SHEET;");
        refusedSheets("judge", TwoHeapsAlike::judge, -2);
        check.says("-11;");
        refusedMissing("judge", TwoHeapsAlike::judge, -11);
        check.says("BAD: its size isn't by twos,");
        refusedSizes("judge", TwoHeapsAlike::judge, -2);
        check.says("what is no HEAP.");
        refusedHeaps("judge", TwoHeapsAlike::judge, -2);
    }

    /** Twenty rows, all but the last one of the empty HEAP. */
    private static TwoHeapsAlike twentyRows(int heap, int sum) {
        int[] row = new int[40];
        row[38] = heap;
        row[39] = sum;
        return rows(row);
    }

    private static TwoHeapsAlike emptyRow() {
        TwoHeapsAlike x = new TwoHeapsAlike();
        x.sheet(0, 0, 0);
        return x;
    }

    private static void promise27() {
        check.section("27");
        check.says("CARDS (bits) each of which alone, did it COUNT otherwise, could make all rows so");
        due("one of two", rows(3, 10).blame(0), 3);
        due("in both", rows(3, 10, 5, 12).blame(0), 1);
        due("not by as much", rows(3, 10, 5, 13).blame(0), 0);
        due("not what is in a right row", rows(3, 10, 1, 3).blame(0), 2);
        due("not what isn't in a wrong row", rows(3, 10, 4, 8).blame(0), 0);
        due("a right row without it", rows(1, 5, 6, 12, 0, 0).blame(0), 1);
        due("none in the empty one", rows(0, 1).blame(0), 0);
        due("all in all", rows(7, 16).blame(0), 7);
        due("by less", rows(4, -100).blame(0), 4);
        due("by more than any CARD COUNTS now", rows(2, MAX).blame(0), 2);
        due("two that are wrong", rows(1, 4, 2, 6).blame(0), 0);
        due("twenty rows, the last one wrong", twentyRows(7, 16).blame(0), 7);
        TwoHeapsAlike x = rows(7, 16, 1, 3);
        Given.sheet(x, 0, 7, 16);
        due("a row that is none any more", x.blame(0), 7);
        check.says("(if they are so: none).");
        due("all so", rows(1, 3, 6, 12).blame(0), 0);
        due("no row", rows().blame(0), 0);
        due("no row, without CARDS", emptyRow().blame(0), 0);
        check.says("BAD, -11, BAD likewise.");
        refused("blame", TwoHeapsAlike::blame, -11, -2);
    }

    private static void promise28() {
        check.section("28");
        check.says("How much more such a CARD would COUNT then.");
        due("2 more", rows(3, 10, 5, 12).more(0, 0), 2);
        due("7 less", rows(3, 1).more(0, 1), -7);
        due("either of two", rows(3, 10).more(0, 0), 2);
        due("the other one", rows(3, 10).more(0, 1), 2);
        due("of twenty rows the last one wrong", twentyRows(7, 16).more(0, 2), 1);
        due("MIN", rows(1, MIN).more(0, 0), -2147483651L);
        TwoHeapsAlike x = rows(1, MAX);
        Given.law(x, "counts -9; moves 1; asks 1;");
        due("beyond an int", x.more(0, 0), 2147483656L);
        due("as much as BAD", rows(1, 1).more(0, 0), -2);
        due("as much as -11", rows(1, -8).more(0, 0), -11);
        check.says("NO: it is none such;");
        due("another CARD", rows(3, 10, 5, 12).more(0, 1), NO);
        due("one that is in no row", rows(3, 10).more(0, 2), NO);
        due("if all are so", rows(3, 8).more(0, 1), NO);
        due("no row", rows().more(0, 1), NO);
        for (int c : new int[] {3, -1, 10, 32, MIN, MAX}) {
            due("no CARD: " + c, rows(7, 16).more(0, c), NO);
        }
        check.says("refused likewise.");
        refused("more", (y, s) -> y.more(s, 0), NO, NO);
        due("no CARD and a missing one", Given.cards(3).more(0, 1), NO);
        due("of a new object", new TwoHeapsAlike().more(0, 0), NO);
    }

    private static void promise29() {
        check.section("29");
        check.says("TEXTS (bits), were they THE LAW, by which all rows would be so.");
        TwoHeapsAlike x = rows(1, 3, 6, 12);
        due("TEXT 0", x.laws(0), 1);
        Given.text(x, "counts 6 ; moves 1; asks 1;");
        Given.text(x, "counts 3 + 2 * card; moves 1; asks 1;");
        due("TEXTS 0 and 2 of three", x.laws(0), 5);
        x.force(1);
        due("whichever THE LAW is", x.laws(0), 5);
        due("THE LAW stays", x.count(4), 1);
        Given.sheet(x, 0, 3, 12);
        due("TEXT 1", x.laws(0), 2);
        Given.sheet(x, 0);
        due("all of them: no row", x.laws(0), 7);
        Given.sheet(x, 0, 0, 1);
        due("none of them", x.laws(0), 0);
        Given.sheet(x, 0, 3, 8, 2, 6);
        due("none by all rows", x.laws(0), 0);
        Given.text(x, "counts 6 - 3 * left; moves 1; asks 1;");
        Given.text(x, "counts 0; moves 1; asks 1;");
        Given.text(x, "counts 0; moves 1; asks 1;");
        Given.sheet(x, 0, 4, 0);
        due("the last two of six", x.laws(0), 48);
        x.lay(0, 1);
        Given.sheet(x, 0, 1, 3);
        due("as all lie now", x.laws(0), 13);
        check.says("BAD, -11, BAD likewise.");
        refused("laws", TwoHeapsAlike::laws, -11, -2);
    }

    private static void promise30() {
        check.section("30");
        check.says("A SHEET truly becomes n (0 .. 20) such rows (ints),");
        TwoHeapsAlike x = Given.cards(3, 5, 7);
        due("three", x.film(0, 2, 3), 3);
        int[] rows = {2, 5, 3, 8, 4, 7};
        for (int i = 0; i < 6; i++) {
            check.due("number " + i, Given.isNumber(x, 0, i, rows[i]));
        }
        due("as many as these", x.copy(0, 0, 0, 0, 6), 6);
        due("no more", x.copy(0, 0, 0, 0, 7), -12);
        due("they are so", x.judge(0), -1);
        due("none", x.film(0, 0, 0), 0);
        due("none: there is a SHEET", x.cell(0, 0, 0), -12);
        due("none: no row", x.judge(0), -1);
        x = Given.cards(3, 5, 7, 9, 11);
        x.sheet(3, 0, 1);
        Given.sheet(x, 2, 1);
        due("twenty, of a SHEET of one byte", x.film(3, 0, 20), 20);
        due("twenty: all 40 places", x.copy(3, 0, 3, 0, 40), 40);
        due("twenty: so", x.judge(3), -1);
        due("twenty: of ints", x.copy(2, 0, 3, 0, 1), 1);
        x = Given.cards(3, 5);
        Given.law(x, "counts number + 10 * left; moves 1; asks 1;");
        x.lay(0, 1);
        x.film(1, 3, 1);
        check.due("SUM as they lie now", Given.isNumber(x, 1, 1, 18));
        check.says("of HEAPS from one on, one by one");
        x = Given.cards(3, 5, 7);
        due("two from 5 on", x.film(0, 5, 2), 2);
        check.due("the first HEAP", Given.isNumber(x, 0, 0, 5));
        check.due("the other HEAP", Given.isNumber(x, 0, 2, 6));
        due("the empty one", x.film(0, 0, 1), 1);
        check.due("the empty one's SUM", Given.isNumber(x, 0, 1, 0));
        check.says("(fewer, if there are no more): how many.");
        due("20 from 6 on", x.film(0, 6, 20), 2);
        due("20 from 6 on: its size", x.copy(0, 0, 0, 0, 4), 4);
        due("20 from 6 on: no more", x.cell(0, 4, 0), -12);
        due("two from 6 on", x.film(0, 6, 2), 2);
        due("two from 7 on", x.film(0, 7, 2), 1);
        due("20 of a new object", new TwoHeapsAlike().film(0, 0, 20), 1);
        check.says("BAD: SHEET;");
        for (int s : NO_SHEETS) {
            due("film(" + s + ", 0, 1)", x.film(s, 0, 1), -2);
        }
        due("BAD ahead of -7", x.film(4, -1, 21), -2);
        check.says("-7: HEAP,");
        for (int from : new int[] {8, -1, 1023, MIN, MAX}) {
            due("film(1, " + from + ", 1)", x.film(1, from, 1), -7);
        }
        due("film(1, 8, 0)", x.film(1, 8, 0), -7);
        due("of a new object", new TwoHeapsAlike().film(0, 1, 0), -7);
        check.says("n.");
        for (int n : new int[] {-1, 21, MIN, MAX}) {
            due("film(1, 0, " + n + ")", x.film(1, 0, n), -7);
        }
        due("more than there are, too", x.film(1, 7, 21), -7);
        due("still missing", x.judge(1), -11);
    }

    private static void promise31() {
        check.section("31");
        check.says("A SHEET tells SUMS: what 0 the first place (from 0) at which no HEAP has it");
        TwoHeapsAlike x = Given.cards(1, 2, 3);
        Given.sheet(x, 0, 3, 7, 1, -1);
        due("place 1", x.seen(0, 0), 1);
        Given.sheet(x, 0, -1, 3);
        due("place 0", x.seen(0, 0), 0);
        Given.sheet(x, 0, 0, 1, 2, 3, MAX);
        due("the last place", x.seen(0, 0), 4);
        x.sheet(1, 0, 1);
        x.cell(1, 0, 256 + 3);
        due("of bytes", x.seen(1, 0), -1);
        x.cell(1, 0, 255);
        due("of bytes, -1", x.seen(1, 0), 0);
        x.card(40, 7);
        due("of bytes, -1, which is 6 less 7", x.seen(1, 0), -1);
        x.drop();
        check.says("(-1: none),");
        Given.sheet(x, 0, 3, 0, 3, 6, 5);
        due("3 0 3 6 5", x.seen(0, 0), -1);
        Given.sheet(x, 0);
        due("of no number", x.seen(0, 0), -1);
        x.sheet(0, 2, 40);
        due("of 40 times 0", x.seen(0, 0), -1);
        check.says("1 of each how many HEAPS have it, together.");
        due("of 40 times 0", x.seen(0, 1), 40);
        Given.sheet(x, 0, 3, 0, 3, 6, 5);
        due("3 0 3 6 5", x.seen(0, 1), 7);
        Given.sheet(x, 0, 3, 7, 1, -1);
        due("3 7 1 -1", x.seen(0, 1), 3);
        Given.sheet(x, 0, 7);
        due("7", x.seen(0, 1), 0);
        Given.sheet(x, 0);
        due("of no number", x.seen(0, 1), 0);
        TwoHeapsAlike y = Given.cards(0, 0, 0, 0, 0, 0, 0, 0, 0, 0);
        y.sheet(0, 2, 40);
        due("40 times all 1024", y.seen(0, 1), 40960);
        y = Given.cards(4);
        Given.law(y, "counts number + left; moves 1; asks 1;");
        y.lay(0, 1);
        Given.sheet(y, 0, 5, 4);
        due("as all lie now", y.seen(0, 0), 1);
        check.says("BAD: SHEET,");
        for (int s : NO_SHEETS) {
            due("seen(" + s + ", 0)", x.seen(s, 0), -2);
        }
        check.says("what;");
        for (int what : new int[] {-1, 2, MIN, MAX}) {
            due("seen(0, " + what + ")", x.seen(0, what), -2);
            due("ahead of -11: seen(2, " + what + ")", x.seen(2, what), -2);
        }
        check.says("-11.");
        due("seen(2, 0)", x.seen(2, 0), -11);
        due("seen(2, 1)", x.seen(2, 1), -11);
    }

    public static void main(String[] args) throws Exception {
        check = new Check("ToldTest", args[0], "26", "27", "28", "29", "30", "31");
        promise26();
        promise27();
        promise28();
        promise29();
        promise30();
        promise31();
        check.end();
    }
}
