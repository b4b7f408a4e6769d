/** Promises 20 to 25: unlike, next, spread, key, pigeon, question. */
public final class KeysTest {
    private static final Check check = new Check("KeysTest");

    private static void due(String call, long got, long want) {
        check.due(call, got, want);
    }

    private static void unlike(String of, TwoHeapsAlike x, int all, int many) {
        due("20 " + of + ": unlike(0)", x.unlike(0), all);
        due("20 " + of + ": unlike(1)", x.unlike(1), many);
    }

    private static void promise20() {
        due("20 unlike(-1)", Check.with(1).unlike(-1), -2);
        due("20 unlike(2)", Check.with(1).unlike(2), -2);
        unlike("none", new TwoHeapsAlike(), 1, 1);
        unlike("0", Check.with(0), 0, 1);
        unlike("1 2 4", Check.with(1, 2, 4), 1, 8);
        unlike("1 2 3", Check.with(1, 2, 3), 0, 7);
        unlike("4 3 2 1", Check.with(4, 3, 2, 1), 0, 11);
        unlike("3 5 6 7", Check.with(3, 5, 6, 7), 1, 16);
        unlike("1 to 512", Check.with(1, 2, 4, 8, 16, 32, 64, 128, 256, 512), 1, 1024);
        TwoHeapsAlike x = Check.with(5);
        x.card(40, 5);
        unlike("5 and -5", x, 0, 3);
    }

    private static void promise21() {
        due("21 none", new TwoHeapsAlike().next(), 1);
        due("21 1", Check.with(1).next(), 2);
        due("21 1 2", Check.with(1, 2).next(), 4);
        due("21 3", Check.with(3).next(), 1);
        due("21 3 5", Check.with(3, 5).next(), 1);
        due("21 1 2 4 to 256", Check.with(1, 2, 4, 8, 16, 32, 64, 128, 256).next(), 512);
        due("21 ten CARDS", Check.with(1, 2, 4, 8, 16, 32, 64, 128, 256, 512).next(), -1);
        // How far SUMS of 1 3 9 .. 243 are apart: all of 1 .. 364; so with 634 more all of 1 .. 998.
        due("21 the greatest one", Check.with(1, 3, 9, 27, 81, 243, 634).next(), 999);
        due("21 none up to 999", Check.with(1, 3, 9, 27, 81, 243, 635).next(), -1);
        due("21 not unlike now", Check.with(2, 2).next(), -1);
        due("21 a 0", Check.with(0).next(), -1);
        TwoHeapsAlike x = new TwoHeapsAlike();
        x.card(40, 1);
        due("21 -1", x.next(), 2);
        x = new TwoHeapsAlike();
        for (int number = 1; number < 512; number *= 2) {
            x.card(10, number);
        }
        due("21 2 to 512", x.next(), 1);
        x.card(0, 1);
        due("21 1 to 512", x.next(), -1);
    }

    private static void promise22() {
        due("22 none", new TwoHeapsAlike().spread(), -1);
        due("22 0", Check.with(0).spread(), 0);
        due("22 1", Check.with(1).spread(), -1);
        due("22 1 2 4", Check.with(1, 2, 4).spread(), -1);
        due("22 1 2 3 9", Check.with(1, 2, 3, 9).spread(), 2);
        due("22 2 1", Check.with(2, 1).spread(), 1);
        TwoHeapsAlike x = new TwoHeapsAlike();
        x.card(40, 5);
        due("22 -5", x.spread(), 0);
    }

    private static void key(String of, TwoHeapsAlike x, int sum, int... want) {
        for (int what = 0; what < 4; what++) {
            due("23 " + of + ": key(" + sum + ", " + what + ")", x.key(sum, what), want[what]);
        }
    }

    private static void promise23() {
        due("23 key(0, -1)", Check.with(1).key(0, -1), -2);
        due("23 key(0, 4)", Check.with(1).key(0, 4), -2);
        key("none", new TwoHeapsAlike(), 0, 1, 0, 0, 0);
        key("none", new TwoHeapsAlike(), 1, 0, -1, 0, 0);
        TwoHeapsAlike x = Check.with(1, 2, 3, 20, 40);
        key("1 2 3 20 40", x, 23, 2, 11, 8, 16);
        key("1 2 3 20 40", x, 0, 1, 0, 0, 31);
        key("1 2 3 20 40", x, 66, 1, 31, 31, 0);
        key("1 2 3 20 40", x, -1, 0, -1, 0, 0);
        key("1 2 3 20 40", x, Integer.MAX_VALUE, 0, -1, 0, 0);
        x.card(40, 3);
        key("with -3", x, -3, 1, 32, 32, 31);
    }

    private static void pigeon(String of, TwoHeapsAlike x, int lesser, int greater, int both) {
        due("24 " + of + ": pigeon(0)", x.pigeon(0), lesser);
        due("24 " + of + ": pigeon(1)", x.pigeon(1), greater);
        due("24 " + of + ": pigeon(2)", x.pigeon(2), both);
    }

    private static void promise24() {
        due("24 pigeon(-1)", Check.with(1).pigeon(-1), -2);
        due("24 pigeon(3)", Check.with(1).pigeon(3), -2);
        pigeon("none", new TwoHeapsAlike(), -1, -1, 0);
        pigeon("1 2 4", Check.with(1, 2, 4), -1, -1, 0);
        pigeon("0", Check.with(0), 0, 1, 0);
        pigeon("4 1 2 3", Check.with(4, 1, 2, 3), 1, 10, 0);
        pigeon("9 4 1 5 3", Check.with(9, 4, 1, 5, 3), 1, 10, 0);
        pigeon("2 2 2", Check.with(2, 2, 2), 1, 2, 0);
    }

    private static void question(String of, TwoHeapsAlike x, int sum, int cost, int first) {
        due("25 " + of + ": question(" + sum + ", 0)", x.question(sum, 0), cost);
        due("25 " + of + ": question(" + sum + ", 1)", x.question(sum, 1), first);
    }

    private static void promise25() {
        due("25 question(0, -1)", Check.with(1).question(0, -1), -2);
        due("25 question(0, 2)", Check.with(1).question(0, 2), -2);
        due("25 BAD ahead of -5", Check.with(1).question(7, 2), -2);
        question("none", new TwoHeapsAlike(), 0, 0, -1);
        question("none", new TwoHeapsAlike(), 1, -5, -5);
        question("1", Check.with(1), 1, 0, -1);
        // {2} {0, 1}: any of the three tells it.
        question("1 2 3", Check.with(1, 2, 3), 3, 1, 0);
        // Six of two CARDS of four: one of two, of which one is told with three questions.
        question("1 1 1 1", Check.with(1, 1, 1, 1), 2, 3, 0);
        question("1 and four", Check.with(9, 1, 1, 1, 1), 2, 3, 1);
        question("1 1 1 1", Check.with(1, 1, 1, 1), 1, 3, 0);
        question("eight of one CARD each", Check.with(1, 1, 1, 1, 1, 1, 1, 1, 2, 2), 1, 7, 0);
        TwoHeapsAlike x = Check.with(1, 1, 1, 1, 1, 2, 2, 9);
        due("25 twelve there are", x.key(2, 0), 12);
        // Ten of two of the first five, two of one: without CARD 0 there are eight, of which 1 is in three.
        question("twelve", x, 2, 5, 0);
        due("25 thirteen there are", Check.with(1, 1, 1, 1, 1, 2, 2, 2).key(2, 0), 13);
        question("thirteen", Check.with(1, 1, 1, 1, 1, 2, 2, 2), 2, -4, -4);
        x = Check.with(1, 2, 3);
        Check.force(x, "counts number; moves 1; asks 7 - 2 * card;");
        question("the last one is cheapest", x, 3, 3, 2);
        Check.force(x, "counts number; moves 1; asks 0;");
        question("free ones", x, 3, 0, 0);
        x = Check.with(1, 2, 3);
        Check.force(x, "counts number; moves 1; asks 5 - 3 * left;");
        x.lay(1, 1);
        question("by where they lie", x, 3, 2, 1);
    }

    public static void main(String[] args) {
        promise20();
        promise21();
        promise22();
        promise23();
        promise24();
        promise25();
        check.end();
    }
}
