/** Promises 37 to 41: sheet, cell, copy, cardsBy, taken. */
public final class HostTest {
    private static final Check check = new Check("HostTest");

    private static void due(String call, long got, long want) {
        check.due(call, got, want);
    }

    private static void promise37() {
        TwoHeapsAlike x = new TwoHeapsAlike();
        due("37 sheet(-1, ..)", x.sheet(-1, 0, 1), -2);
        due("37 sheet(4, ..)", x.sheet(4, 0, 1), -2);
        due("37 sort -2", x.sheet(0, -2, 1), -2);
        due("37 sort 3", x.sheet(0, 3, 1), -2);
        due("37 41", x.sheet(0, 2, 41), -2);
        due("37 -1", x.sheet(0, 2, -1), -14);
        due("37 BAD ahead of -14", x.sheet(0, 3, -1), -2);
        due("37 still missing", x.cell(0, 0, 0), -11);
        for (int sort = 0; sort < 3; sort++) {
            due("37 of sort " + sort, x.sheet(sort, sort, 40), 1);
            due("37 its last place", x.cell(sort, 39, 1), 1);
            due("37 no more", x.cell(sort, 40, 1), -12);
        }
        due("37 anew", x.sheet(1, 1, 2), 1);
        x.sheet(1, 1, 40);
        x.card(0, 5);
        due("37 all 0", x.seen(1, 1), 40);
        due("37 of none", x.sheet(2, 2, 0), 1);
        due("37 of none: there is one", x.cell(2, 0, 1), -12);
        due("37 missing, n does not matter", x.sheet(2, -1, 41), 1);
        due("37 missing", x.cell(2, 0, 1), -11);
        due("37 missing, n below 0", x.sheet(1, -1, -1), 1);
        due("37 missing, too", x.cell(1, 0, 1), -11);
    }

    private static void promise38() {
        TwoHeapsAlike x = new TwoHeapsAlike();
        due("38 cell(-1, ..)", x.cell(-1, 0, 1), -2);
        due("38 cell(4, ..)", x.cell(4, 0, 1), -2);
        due("38 missing", x.cell(0, 5, 1), -11);
        x.sheet(0, 0, 1);
        x.sheet(1, 1, 1);
        x.sheet(2, 2, 1);
        due("38 place -1", x.cell(0, -1, 1), -12);
        due("38 place 1", x.cell(0, 1, 1), -12);
        due("38 place far off", x.cell(0, Integer.MIN_VALUE, 1), -12);
        due("38 a byte", x.cell(0, 0, 127), 1);
        due("38 byte 127", Check.isNumber(x, 0, 0, 127), 1);
        x.cell(0, 0, 128);
        due("38 byte 128", Check.isNumber(x, 0, 0, -128), 1);
        x.cell(0, 0, 0x7fffff05);
        due("38 a byte's lowest 8 bits", Check.isNumber(x, 0, 0, 5), 1);
        x.cell(1, 0, 998);
        due("38 short 998", Check.isNumber(x, 1, 0, 998), 1);
        x.cell(1, 0, 0x7ffffff6);
        due("38 a short's lowest 16 bits", Check.isNumber(x, 1, 0, -10), 1);
        x.cell(1, 0, 0x10007);
        due("38 a short's lowest 16 bits, too", Check.isNumber(x, 1, 0, 7), 1);
        x.cell(2, 0, -500);
        due("38 an int", Check.isNumber(x, 2, 0, -500), 1);
        x.cell(2, 0, 0x10007);
        x.card(0, 7);
        due("38 all of an int", x.seen(2, 0), 0);
    }

    private static void promise39() {
        TwoHeapsAlike x = new TwoHeapsAlike();
        due("39 copy(-1, ..)", x.copy(-1, 0, 0, 0, 1), -2);
        due("39 copy(.., 4, ..)", x.copy(0, 0, 4, 0, 1), -2);
        due("39 missing", x.copy(0, 0, 1, 0, 1), -11);
        Check.sheet(x, 0, 1, 2, 3, 4, 5);
        due("39 the other one missing", x.copy(0, 0, 1, 0, 1), -11);
        due("39 the one missing", x.copy(1, 0, 0, 0, 1), -11);
        x.sheet(1, 1, 5);
        due("39 unlike sorts", x.copy(0, 0, 1, 0, 1), -13);
        due("39 unlike sorts ahead of a place outside", x.copy(0, -1, 1, 0, 1), -13);
        x.sheet(1, 2, 3);
        int[][] outside = {{-1, 0, 1}, {0, -1, 1}, {0, 0, -1}, {0, 0, 4}, {3, 0, 3}, {0, 1, 3}, {6, 0, 0}, {0, 4, 0},
            {Integer.MAX_VALUE, 0, 1}, {1, 1, Integer.MAX_VALUE}, {0, Integer.MAX_VALUE, 2}};
        for (int[] o : outside) {
            due("39 copy(0, " + o[0] + ", 1, " + o[1] + ", " + o[2] + ")", x.copy(0, o[0], 1, o[1], o[2]), -12);
        }
        due("39 nothing came", Check.isNumber(x, 1, 0, 0), 1);
        due("39 none at the end", x.copy(0, 5, 1, 3, 0), 0);
        due("39 two", x.copy(0, 3, 1, 1, 2), 2);
        due("39 place 0", Check.isNumber(x, 1, 0, 0), 1);
        due("39 place 1", Check.isNumber(x, 1, 1, 4), 1);
        due("39 place 2", Check.isNumber(x, 1, 2, 5), 1);
        due("39 its own, onwards", x.copy(0, 0, 0, 1, 4), 4);
        for (int i = 0; i < 5; i++) {
            due("39 as they were, onwards, place " + i, Check.isNumber(x, 0, i, i == 0 ? 1 : i), 1);
        }
        due("39 its own, backwards", x.copy(0, 1, 0, 0, 4), 4);
        for (int i = 0; i < 5; i++) {
            due("39 as they were, backwards, place " + i, Check.isNumber(x, 0, i, i == 4 ? 4 : i + 1), 1);
        }
    }

    private static void promise40() {
        TwoHeapsAlike x = new TwoHeapsAlike();
        due("40 SHEET -1", x.cardsBy(-1, 2, 0, 1), -2);
        due("40 SHEET 4", x.cardsBy(4, 2, 0, 1), -2);
        due("40 sort -1", x.cardsBy(0, -1, 0, 1), -2);
        due("40 sort 3", x.cardsBy(0, 3, 0, 1), -2);
        due("40 n -1", x.cardsBy(0, 2, 0, -1), -2);
        due("40 n 11", x.cardsBy(0, 2, 0, 11), -2);
        due("40 missing", x.cardsBy(0, 2, 0, 1), -11);
        Check.sheet(x, 0, 9, 12, 100, 60, 1, 34, 999, 0, 1000);
        due("40 of another sort", x.cardsBy(0, 1, 0, 1), -13);
        due("40 -13 ahead of -12", x.cardsBy(0, 1, 50, 1), -13);
        due("40 none", x.cardsBy(0, 2, 0, 0), 0);
        due("40 a place outside", x.cardsBy(0, 2, -1, 1), -12);
        due("40 a place outside, behind", x.cardsBy(0, 2, 8, 1), -12);
        due("40 a place far outside", x.cardsBy(0, 2, Integer.MAX_VALUE, 2), -12);
        due("40 nothing came", x.count(0), 0);
        due("40 four, one of which is left out", x.cardsBy(0, 2, 1, 3), 2);
        due("40 the first: KIND", x.told(0, 0), 1);
        due("40 the first: MORE", x.told(0, 2), 2);
        due("40 the first: TOLD", x.told(0, 1), 100);
        due("40 the other: KIND", x.told(1, 0), 3);
        due("40 the other: TOLD", x.told(1, 1), 999);
        due("40 what stood ahead came", x.cardsBy(0, 2, 5, 3), -12);
        due("40 it came", x.count(0), 3);
        x.sheet(1, 0, 20);
        due("40 as far as there is room", x.cardsBy(1, 0, 0, 10), 7);
        due("40 all ten", x.count(0), 10);
        due("40 no room", x.cardsBy(1, 0, 0, 2), 0);
        due("40 no room, and outside", x.cardsBy(1, 0, 18, 2), -12);
    }

    private static void taken(TwoHeapsAlike x, int c, String kinds) {
        for (int kind = 0; kind < 6; kind++) {
            due("41 taken(" + (c + 2) + ", " + kind + ")", x.taken(c + 2, kind),
                kinds.indexOf('0' + kind) >= 0 ? c : -100013);
        }
        due("41 taken(" + (c + 2) + ", 6)", x.taken(c + 2, 6), -100013);
    }

    private static void promise41() {
        TwoHeapsAlike x = new TwoHeapsAlike();
        for (int kind = 0; kind < 6; kind++) {
            x.card(10 * kind + 1, 7);
        }
        String[] kinds = {"0", "01", "02", "013", "024", "05"};
        for (int c = 0; c < 6; c++) {
            taken(x, c, kinds[c]);
        }
        due("41 kind -1", x.taken(0, -1), -100000);
        due("41 kind 7", x.taken(0, 7), -100000);
        due("41 kind ahead of i", x.taken(12, 7), -100000);
        due("41 place -1", x.taken(-1, 0), -100012);
        due("41 place 12", x.taken(12, 0), -100012);
        due("41 no CARD there", x.taken(8, 0), -100011);
        due("41 no CARD at the last place", x.taken(11, 6), -100011);
        due("41 nothing to the LEFT", x.taken(0, 6), -100011);
        due("41 nothing to the RIGHT", x.taken(1, 0), -100011);
        Check.lay(x, 1, 16);
        due("41 to the LEFT", x.taken(0, 6), 7);
        due("41 to the RIGHT", x.taken(1, 6), -7);
        due("41 no CARD, but a HEAP", x.taken(0, 0), -100013);
        due("41 no CARD, but a HEAP, to the RIGHT", x.taken(1, 5), -100013);
        for (int c = 6; c < 10; c++) {
            x.card(0, 1);
        }
        due("41 the last place", x.taken(11, 0), 9);
        Check.force(x, "counts 3 + 40 * left; moves 1; asks 1;");
        Check.lay(x, 3, 4);
        due("41 SUM as they lie now", x.taken(0, 6), 129);
    }

    public static void main(String[] args) {
        promise37();
        promise38();
        promise39();
        promise40();
        promise41();
        check.end();
    }
}
