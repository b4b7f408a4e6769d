/** Promises 37 to 41: sheet, cell, copy, cardsBy, taken. */
public final class HostTest {
    private static final int MIN = Integer.MIN_VALUE, MAX = Integer.MAX_VALUE;
    private static final int[] NO_SHEETS = {-1, 4, MIN, MAX};
    private static Check check;

    private static void due(String call, long got, long want) {
        check.due(call, got, want);
    }

    private static void promise37() {
        check.section("37");
        check.says("A SHEET becomes a row of n of a sort, all 0,");
        TwoHeapsAlike x = Given.cards(5);
        for (int sort = 0; sort < 3; sort++) {
            due("of sort " + sort, x.sheet(sort, sort, 40), 1);
            due("it is of that sort", x.cardsBy(sort, sort, 0, 0), 0);
            due("its last place", x.cell(sort, 39, 1), 1);
            due("no more", x.cell(sort, 40, 1), -12);
            due("all 0 but for it: 5 and 0 are SUMS", x.seen(sort, 0), 39);
            due("anew", x.sheet(sort, sort, 40), 1);
            due("all 0 again", x.seen(sort, 1), 40);
            due("of none", x.sheet(sort, sort, 0), 1);
            due("of none: there is one", x.cell(sort, 0, 1), -12);
        }
        due("SHEET 3", x.sheet(3, 0, 1), 1);
        due("of another sort", x.sheet(3, 2, 1), 1);
        due("it is of another sort", x.cardsBy(3, 0, 0, 0), -13);
        x.sheet(3, 2, 3);
        x.cell(3, 2, 9);
        x.sheet(3, 2, 1);
        x.sheet(3, 2, 3);
        due("larger again, all 0", x.seen(3, 1), 3);
        check.says("or missing (sort -1: n does not matter): 1.");
        for (int n : new int[] {0, 7, 41, -1, MIN, MAX}) {
            x.sheet(2, 2, 1);
            due("missing, n " + n, x.sheet(2, -1, n), 1);
            due("it is missing", x.cell(2, 0, 1), -11);
            due("missing again", x.sheet(2, -1, n), 1);
        }
        check.says("BAD: SHEET,");
        for (int s : NO_SHEETS) {
            due("sheet(" + s + ", 0, 1)", x.sheet(s, 0, 1), -2);
            due("sheet(" + s + ", -1, 1)", x.sheet(s, -1, 1), -2);
            due("ahead of -14: sheet(" + s + ", 0, -1)", x.sheet(s, 0, -1), -2);
        }
        check.says("sort,");
        x = new TwoHeapsAlike();
        for (int sort : new int[] {-2, 3, MIN, MAX}) {
            due("sheet(0, " + sort + ", 1)", x.sheet(0, sort, 1), -2);
            due("ahead of -14: sheet(0, " + sort + ", -1)", x.sheet(0, sort, -1), -2);
        }
        check.says("n above 40;");
        for (int sort = 0; sort < 3; sort++) {
            due("41 of sort " + sort, x.sheet(0, sort, 41), -2);
            due("MAX of sort " + sort, x.sheet(0, sort, MAX), -2);
        }
        check.says("-14.");
        for (int sort = 0; sort < 3; sort++) {
            due("-1 of sort " + sort, x.sheet(0, sort, -1), -14);
            due("MIN of sort " + sort, x.sheet(0, sort, MIN), -14);
        }
        due("still missing", x.cell(0, 0, 0), -11);
    }

    /** Whether number 0 of a SHEET becomes this one by that. */
    private static void becomes(TwoHeapsAlike x, int s, int v, int number) {
        due("cell(" + s + ", 0, " + v + ")", x.cell(s, 0, v), 1);
        check.due(v + " is " + number + " then", Given.isNumber(x, s, 0, number));
    }

    private static void promise38() {
        check.section("38");
        check.says("Number i of a SHEET becomes v");
        TwoHeapsAlike x = new TwoHeapsAlike();
        Given.sheet(x, 2, 7, 8, 9);
        due("cell(2, 1, -500)", x.cell(2, 1, -500), 1);
        check.due("number 0", Given.isNumber(x, 2, 0, 7));
        check.due("number 1", Given.isNumber(x, 2, 1, -500));
        check.due("number 2", Given.isNumber(x, 2, 2, 9));
        check.says("(of bytes, shorts its lowest 8, 16 bits): 1.");
        x = new TwoHeapsAlike();
        x.sheet(0, 0, 1);
        becomes(x, 0, 127, 127);
        becomes(x, 0, 128, -128);
        becomes(x, 0, 255, -1);
        becomes(x, 0, 256, 0);
        becomes(x, 0, 0x7fffff05, 5);
        becomes(x, 0, -128, -128);
        becomes(x, 0, -129, 127);
        x = new TwoHeapsAlike();
        x.sheet(1, 1, 1);
        becomes(x, 1, 998, 998);
        becomes(x, 1, 255, 255);
        becomes(x, 1, 0x7ffffff6, -10);
        becomes(x, 1, 0x10007, 7);
        becomes(x, 1, 65535, -1);
        becomes(x, 1, 65536, 0);
        // Less than any SUM: 7 would be told by so much less.
        x = Given.cards(7);
        x.sheet(1, 1, 2);
        x.cell(1, 0, 1);
        x.cell(1, 1, 32768 + 5);
        due("a short, 32773", x.more(1, 0), -32763 - 7);
        x.cell(1, 1, 32767);
        due("a short, 32767", x.more(1, 0), 32767 - 7);
        x = new TwoHeapsAlike();
        x.sheet(2, 2, 1);
        x.cell(2, 0, 0x10007);
        check.due("all of an int: 65543 is not 7", !Given.isNumber(x, 2, 0, 7));
        x.card(0, 7);
        due("MIN", x.cell(2, 0, MIN), 1);
        Given.sheet(x, 0, 1, MIN);
        due("MIN is kept", x.more(0, 0), (long) MIN - 7);
        check.says("BAD: SHEET;");
        x = new TwoHeapsAlike();
        for (int s : NO_SHEETS) {
            due("cell(" + s + ", 0, 1)", x.cell(s, 0, 1), -2);
            due("ahead of -12: cell(" + s + ", -1, 1)", x.cell(s, -1, 1), -2);
        }
        check.says("-11;");
        due("cell(3, 0, 1)", x.cell(3, 0, 1), -11);
        due("ahead of -12: cell(3, -1, 1)", x.cell(3, -1, 1), -11);
        due("ahead of -12: cell(3, 40, 1)", x.cell(3, 40, 1), -11);
        check.says("-12.");
        x.sheet(3, 0, 3);
        for (int i : new int[] {-1, 3, 39, 40, MIN, MAX}) {
            due("cell(3, " + i + ", 1)", x.cell(3, i, 1), -12);
        }
        due("nothing came", x.seen(3, 1), 3);
        x.sheet(3, 0, 0);
        due("of none: cell(3, 0, 1)", x.cell(3, 0, 1), -12);
    }

    private static void numbers(String of, TwoHeapsAlike x, int s, int... want) {
        for (int i = 0; i < want.length; i++) {
            check.due(of + ", number " + i + " is " + want[i], Given.isNumber(x, s, i, want[i]));
        }
    }

    /** SHEET 0 of five ints, SHEET 1 of three, SHEET 2 of five bytes, SHEET 3 is missing. */
    private static TwoHeapsAlike sheets() {
        TwoHeapsAlike x = new TwoHeapsAlike();
        Given.sheet(x, 0, 1, 2, 3, 4, 5);
        Given.sheet(x, 1, 6, 7, 8);
        x.sheet(2, 0, 5);
        return x;
    }

    private static void promise39() {
        check.section("39");
        check.says("n numbers of a SHEET, from i on, come to another one's (or its own) place j (as they were): n.");
        TwoHeapsAlike x = sheets();
        due("two", x.copy(0, 3, 1, 1, 2), 2);
        numbers("two: the other one", x, 1, 6, 4, 5);
        numbers("two: the one", x, 0, 1, 2, 3, 4, 5);
        x = sheets();
        due("all of it", x.copy(1, 0, 0, 2, 3), 3);
        numbers("all of it", x, 0, 1, 2, 6, 7, 8);
        x = sheets();
        due("its own, onwards", x.copy(0, 0, 0, 1, 4), 4);
        numbers("its own, onwards", x, 0, 1, 1, 2, 3, 4);
        x = sheets();
        due("its own, backwards", x.copy(0, 1, 0, 0, 4), 4);
        numbers("its own, backwards", x, 0, 2, 3, 4, 5, 5);
        x = sheets();
        due("its own, where it is", x.copy(0, 0, 0, 0, 5), 5);
        due("none", x.copy(0, 1, 1, 1, 0), 0);
        due("none at the end", x.copy(0, 5, 1, 3, 0), 0);
        numbers("none", x, 1, 6, 7, 8);
        check.says("BAD: SHEETS;");
        x = sheets();
        for (int s : NO_SHEETS) {
            due("copy(" + s + ", 0, 0, 0, 1)", x.copy(s, 0, 0, 0, 1), -2);
            due("copy(0, 0, " + s + ", 0, 1)", x.copy(0, 0, s, 0, 1), -2);
            due("ahead of -11: copy(" + s + ", 0, 3, 0, 1)", x.copy(s, 0, 3, 0, 1), -2);
            due("ahead of -11: copy(3, 0, " + s + ", 0, 1)", x.copy(3, 0, s, 0, 1), -2);
            due("ahead of -12: copy(0, -1, " + s + ", 0, 1)", x.copy(0, -1, s, 0, 1), -2);
        }
        check.says("-11;");
        due("the one", x.copy(3, 0, 0, 0, 1), -11);
        due("the other one", x.copy(0, 0, 3, 0, 1), -11);
        due("both", x.copy(3, 0, 3, 0, 1), -11);
        due("none of it", x.copy(0, 0, 3, 0, 0), -11);
        due("ahead of -12", x.copy(0, -1, 3, 0, -1), -11);
        check.says("-13: unlike sorts;");
        due("ints to bytes", x.copy(0, 0, 2, 0, 1), -13);
        due("bytes to ints", x.copy(2, 0, 0, 0, 1), -13);
        due("none of them", x.copy(0, 0, 2, 0, 0), -13);
        due("ahead of -12", x.copy(0, -1, 2, 0, 1), -13);
        due("ahead of -12, n below 0", x.copy(0, 0, 2, 0, -1), -13);
        x.sheet(3, 1, 5);
        due("ints to shorts", x.copy(0, 0, 3, 0, 1), -13);
        due("shorts to bytes", x.copy(3, 0, 2, 0, 1), -13);
        check.says("-12 (n below 0, too).");
        int[][] outside = {{-1, 0, 1}, {0, -1, 1}, {0, 0, 4}, {3, 0, 3}, {5, 0, 1}, {0, 1, 3}, {0, 3, 1}, {6, 0, 0},
            {0, 4, 0}, {-1, 0, 0}, {0, -1, 0}, {0, 0, -1}, {2, 2, -1}, {0, 0, MIN}, {0, 0, MAX}, {MAX, 0, 1},
            {MAX, 0, MAX}, {0, MAX, 2}, {MIN, 0, 1}, {0, MIN, 1}, {1, 1, MAX}, {5, 3, MAX}};
        for (int[] o : outside) {
            due("copy(0, " + o[0] + ", 1, " + o[1] + ", " + o[2] + ")", x.copy(0, o[0], 1, o[1], o[2]), -12);
        }
        numbers("nothing came", x, 1, 6, 7, 8);
    }

    private static void promise40() {
        check.section("40");
        check.says("CARDS by a SHEET of a sort: from a place on, two by two (as of card()),");
        TwoHeapsAlike x = new TwoHeapsAlike();
        Given.sheet(x, 0, 9, 12, 100, 37, 999);
        due("two from 1 on", x.cardsBy(0, 2, 1, 2), 2);
        int[][] want = {{1, 100, 2}, {3, 999, 7}};
        for (int c = 0; c < 2; c++) {
            due("KIND of CARD " + c, x.told(c, 0), want[c][0]);
            due("TOLD of CARD " + c, x.told(c, 1), want[c][1]);
            due("MORE of CARD " + c, x.told(c, 2), want[c][2]);
            due("ASIDE", x.told(c, 3), 0);
        }
        x.sheet(1, 0, 2);
        x.cell(1, 0, 59);
        x.cell(1, 1, 127);
        due("by bytes", x.cardsBy(1, 0, 0, 1), 1);
        due("by bytes: TOLD", x.told(2, 1), 127);
        x.sheet(1, 1, 2);
        x.cell(1, 1, 999);
        due("by shorts", x.cardsBy(1, 1, 0, 1), 1);
        due("by shorts: TOLD", x.told(3, 1), 999);
        check.says("n of them (0 .. 10): how many came");
        x = new TwoHeapsAlike();
        Given.sheet(x, 0, new int[40]);
        due("none", x.cardsBy(0, 2, 0, 0), 0);
        due("one", x.cardsBy(0, 2, 0, 1), 1);
        due("one there is", x.count(0), 1);
        x.drop();
        due("ten", x.cardsBy(0, 2, 20, 10), 10);
        due("ten there are", x.count(0), 10);
        check.says("(others are left out).");
        x = new TwoHeapsAlike();
        Given.sheet(x, 0, 60, 1, 0, 2, -1, 3, 0, 1000, 0, -1, 5, 4);
        due("four of six are none", x.cardsBy(0, 2, 0, 6), 2);
        due("the first that came", x.told(0, 1), 2);
        due("the other", x.told(1, 1), 4);
        x = Given.cards(1, 1, 1, 1, 1, 1, 1);
        Given.sheet(x, 0, new int[40]);
        due("as far as there is room", x.cardsBy(0, 2, 0, 10), 3);
        due("no room", x.cardsBy(0, 2, 0, 10), 0);
        check.says("BAD: SHEET,");
        for (int s : NO_SHEETS) {
            due("cardsBy(" + s + ", 2, 0, 1)", x.cardsBy(s, 2, 0, 1), -2);
        }
        check.says("sort,");
        for (int sort : new int[] {-1, 3, MIN, MAX}) {
            due("cardsBy(0, " + sort + ", 0, 1)", x.cardsBy(0, sort, 0, 1), -2);
            due("ahead of -11: cardsBy(1, " + sort + ", 0, 1)", x.cardsBy(1, sort, 0, 1), -2);
        }
        check.says("n;");
        for (int n : new int[] {-1, 11, MIN, MAX}) {
            due("cardsBy(0, 2, 0, " + n + ")", x.cardsBy(0, 2, 0, n), -2);
            due("ahead of -11: cardsBy(1, 2, 0, " + n + ")", x.cardsBy(1, 2, 0, n), -2);
            due("ahead of -13: cardsBy(0, 1, 0, " + n + ")", x.cardsBy(0, 1, 0, n), -2);
        }
        check.says("-11;");
        for (int sort = 0; sort < 3; sort++) {
            due("cardsBy(1, " + sort + ", 0, 1)", x.cardsBy(1, sort, 0, 1), -11);
            due("none of it", x.cardsBy(1, sort, 0, 0), -11);
        }
        due("ahead of -12", x.cardsBy(1, 2, -1, 1), -11);
        check.says("-13;");
        due("bytes by ints", x.cardsBy(0, 0, 0, 1), -13);
        due("shorts by ints", x.cardsBy(0, 1, 0, 1), -13);
        due("none by ints", x.cardsBy(0, 1, 0, 0), -13);
        due("ahead of -12", x.cardsBy(0, 1, 50, 1), -13);
        x.sheet(1, 0, 2);
        due("ints by bytes", x.cardsBy(1, 2, 0, 1), -13);
        check.says("-12: what stood ahead came.");
        x = new TwoHeapsAlike();
        Given.sheet(x, 0, 0, 1, 60, 2, 0, 3, 7);
        for (int at : new int[] {-1, -2, 6, 7, 40, MIN, MAX, MAX - 1}) {
            due("cardsBy(0, 2, " + at + ", 1)", x.cardsBy(0, 2, at, 1), -12);
        }
        due("nothing came", x.count(0), 0);
        due("the fourth is outside", x.cardsBy(0, 2, 0, 4), -12);
        due("two of three came", x.count(0), 2);
        due("the first", x.told(0, 1), 1);
        due("the third", x.told(1, 1), 3);
        x = Given.cards(1, 1, 1, 1, 1, 1, 1, 1, 1, 1);
        Given.sheet(x, 0, 0, 1);
        due("no room, and outside", x.cardsBy(0, 2, 0, 2), -12);
    }

    private static void taken(int kindMore, String kinds) {
        TwoHeapsAlike x = Given.kinds(0, 1, kindMore, 7);
        for (int kind = 0; kind < 6; kind++) {
            due("card(" + kindMore + ", 7): taken(3, " + kind + ")", x.taken(3, kind),
                kinds.indexOf('0' + kind) >= 0 ? 1 : -100013);
        }
    }

    private static void promise41() {
        check.section("41");
        check.says("What lies at place i: 0 what lies to the LEFT, 1 to the RIGHT,");
        TwoHeapsAlike x = Given.kinds(0, 3, 0, 5, 40, 9);
        Given.lay(x, 3, 0);
        due("to the LEFT", x.taken(0, 6), 8);
        Given.lay(x, 4, 2);
        due("to the LEFT, a DEBT", x.taken(0, 6), -9);
        due("to the RIGHT", x.taken(1, 6), 5);
        check.says("if there is any,");
        x.lay(1, 0);
        due("none to the RIGHT", x.taken(1, 6), -100011);
        x.lay(2, 0);
        due("none to the LEFT", x.taken(0, 6), -100011);
        check.says("2 .. 11 CARDS,");
        x = Given.cards(1, 1, 1, 1, 1, 1, 1, 1, 1, 1);
        for (int i = 2; i < 12; i++) {
            due("taken(" + i + ", 0)", x.taken(i, 0), i - 2);
        }
        check.says("taken for 0 .. 5 a CARD of that KIND (also of one that is one): its number;");
        taken(5, "0");
        taken(15, "01");
        taken(25, "02");
        taken(35, "013");
        taken(45, "024");
        taken(55, "05");
        check.says("6 a HEAP: its SUM.");
        x = Given.cards(3, 5, 7);
        Given.law(x, "counts number + 40 * left; moves 1; asks 1;");
        Given.lay(x, 3, 4);
        due("as they lie now: LEFT", x.taken(0, 6), 88);
        due("as they lie now: RIGHT", x.taken(1, 6), 7);
        check.says("-100000: kind;");
        for (int kind : new int[] {-1, 7, MIN, MAX}) {
            due("taken(2, " + kind + ")", x.taken(2, kind), -100000);
            due("ahead of i: taken(12, " + kind + ")", x.taken(12, kind), -100000);
            due("ahead of nothing there: taken(5, " + kind + ")", x.taken(5, kind), -100000);
        }
        check.says("-100012: i;");
        for (int i : new int[] {-1, 12, MIN, MAX}) {
            due("taken(" + i + ", 0)", x.taken(i, 0), -100012);
            due("taken(" + i + ", 6)", x.taken(i, 6), -100012);
        }
        check.says("-100011: nothing lies there;");
        for (int kind = 0; kind < 7; kind++) {
            due("the first that is none: taken(5, " + kind + ")", x.taken(5, kind), -100011);
            due("taken(11, " + kind + ")", x.taken(11, kind), -100011);
            due("of a new object: taken(0, " + kind + ")", new TwoHeapsAlike().taken(0, kind), -100011);
            due("of a new object: taken(1, " + kind + ")", new TwoHeapsAlike().taken(1, kind), -100011);
            due("of a new object: taken(2, " + kind + ")", new TwoHeapsAlike().taken(2, kind), -100011);
        }
        check.says("-100013: it is of another KIND.");
        for (int kind = 0; kind < 6; kind++) {
            due("a HEAP: taken(0, " + kind + ")", x.taken(0, kind), -100013);
            due("a HEAP: taken(1, " + kind + ")", x.taken(1, kind), -100013);
        }
        for (int kind = 0; kind < 6; kind++) {
            due("a CARD as a HEAP, KIND " + kind, Given.kinds(10 * kind, 1).taken(2, 6), -100013);
        }
        due("a CARD as a TWICE", x.taken(2, 1), -100013);
    }

    public static void main(String[] args) throws Exception {
        check = new Check("HostTest", args[0], "37", "38", "39", "40", "41");
        promise37();
        promise38();
        promise39();
        promise40();
        promise41();
        check.end();
    }
}
