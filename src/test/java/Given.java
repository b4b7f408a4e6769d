/** What the tests begin with: objects with CARDS, where these lie, TEXTS, SHEETS. */
final class Given {
    private Given() {
    }

    /** An object with CARDS of KIND 0 that COUNT these numbers. */
    static TwoHeapsAlike cards(int... numbers) {
        TwoHeapsAlike x = new TwoHeapsAlike();
        for (int number : numbers) {
            x.card(0, number);
        }
        return x;
    }

    /** An object with CARDS told by two numbers each, as of card(). */
    static TwoHeapsAlike kinds(int... kindMoreAndNumber) {
        TwoHeapsAlike x = new TwoHeapsAlike();
        for (int i = 0; i < kindMoreAndNumber.length; i += 2) {
            x.card(kindMoreAndNumber[i], kindMoreAndNumber[i + 1]);
        }
        return x;
    }

    /** Lays the CARDS of two HEAPS to the LEFT and to the RIGHT, all others ASIDE. */
    static void lay(TwoHeapsAlike x, int left, int right) {
        for (int c = 0; c < x.count(0); c++) {
            x.lay(c, (left >> c & 1) == 1 ? 1 : (right >> c & 1) == 1 ? 2 : 0);
        }
    }

    static void tape(TwoHeapsAlike x, String text) {
        for (int i = 0; i < text.length(); i++) {
            x.feed(1, text.charAt(i), 0, 0, 0, 0);
        }
    }

    /** What text() answers of this. */
    static int text(TwoHeapsAlike x, String text) {
        tape(x, text);
        return x.text();
    }

    /** Makes this THE LAW. */
    static void law(TwoHeapsAlike x, String text) {
        x.force(text(x, text));
    }

    /** A SHEET of ints becomes this row. */
    static void sheet(TwoHeapsAlike x, int s, int... row) {
        x.sheet(s, 2, row.length);
        for (int i = 0; i < row.length; i++) {
            x.cell(s, i, row[i]);
        }
    }

    /** Whether number i of a SHEET (0 .. 2) is this one (-999 .. 998): if it is, a CARD that COUNTS so is seen in it. */
    static boolean isNumber(TwoHeapsAlike x, int s, int i, int number) {
        for (int sort = 0; sort < 3; sort++) {
            x.sheet(3, sort, 1);
            if (x.copy(s, i, 3, 0, 1) == 1) {
                break;
            }
        }
        x.image();
        x.force(0);
        for (int c = x.count(0); c > 0; c--) {
            x.drop();
        }
        boolean isNone = x.seen(3, 0) == -1;
        x.card(number < 0 ? 40 : 0, Math.abs(number));
        x.card(0, 999);
        boolean isOne = x.seen(3, 0) == -1 && x.seen(3, 1) == (number == 0 ? 2 : 1);
        x.back();
        return isOne && isNone == (number == 0);
    }
}
