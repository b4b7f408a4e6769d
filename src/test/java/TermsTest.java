/** The terms that the promises rest on, and how long an object is used. */
public final class TermsTest {
    private static Check check;

    private static void due(String call, long got, long want) {
        check.due(call, got, want);
    }

    private static void due(String what, boolean so) {
        check.due(what, so);
    }

    private static void use() {
        check.section(Document.USE);
        check.says("An object is used for at most 512 calls after it has been made; what later calls answer is free.");
        TwoHeapsAlike x = new TwoHeapsAlike();
        for (int i = 0; i < 102; i++) {
            x.card(0, i);
            x.lay(0, 1);
            x.image();
            x.back();
            x.drop();
        }
        due("call 511", x.card(0, 7), 0);
        due("call 512", x.heap(1, 0), 7);
    }

    // ---- cards

    private static void cards() {
        check.section(Document.TERMS);
        check.says("CARDS are numbered from 0 on, 10 at most:");
        TwoHeapsAlike x = new TwoHeapsAlike();
        for (int c = 0; c < 10; c++) {
            due("card " + c, x.card(0, c), c);
        }
        due("an eleventh", x.card(0, 0), -4);
        due("told of it", x.told(10, 0), -10000);
        due("how many", x.count(0), 10);
        check.says("of a KIND, with TOLD (0 .. 999), MORE (0 .. 9), lying to the LEFT, to the RIGHT, or ASIDE");
        x = Given.kinds(30, 0, 59, 999, 0, 7);
        int[][] want = {{3, 0, 0}, {5, 999, 9}, {0, 7, 0}};
        for (int c = 0; c < 3; c++) {
            due("KIND of CARD " + c, x.told(c, 0), want[c][0]);
            due("TOLD of CARD " + c, x.told(c, 1), want[c][1]);
            due("MORE of CARD " + c, x.told(c, 2), want[c][2]);
        }
        due("TOLD 1000", x.card(0, 1000), -2);
        due("TOLD -1", x.card(0, -1), -2);
        Given.lay(x, 1, 2);
        due("to the LEFT", x.told(0, 3), 1);
        due("to the RIGHT", x.told(1, 3), 2);
        due("ASIDE", x.told(2, 3), 0);
        check.says("(as they come).");
        due("a new one lies ASIDE", x.told(x.card(20, 1), 3), 0);
        x.lay(3, 1);
        x.drop();
        due("one where another one lay, too", x.told(x.card(20, 1), 3), 0);
        Given.sheet(x, 0, 0, 5);
        x.cardsBy(0, 2, 0, 1);
        due("one by a SHEET, too", x.told(4, 3), 0);
    }

    /** One CARD by this, and what it COUNTS, its SIDES, what MOVING it costs, as the law says 100 and 20. */
    private static void kind(int kindMore, int counts, int sides, int moving) {
        TwoHeapsAlike x = Given.kinds(kindMore, 100);
        Given.law(x, "counts number; moves 20; asks 1;");
        due("it COUNTS, card(" + kindMore + ", 100)", x.told(0, 4), counts);
        due("its SIDES, card(" + kindMore + ", 100)", x.told(0, 5), sides);
        due("MOVING it, card(" + kindMore + ", 100)", x.told(0, 6), moving);
    }

    private static void kinds() {
        check.says("KINDS: how much one COUNTS, the text saying so much; SIDES (1 the LEFT, 2 the RIGHT, 3 both)"
            + " on which it MAY lie; what MOVING it costs, the text saying so much.");
        TwoHeapsAlike x = Given.kinds(20, 5, 21, 5, 0, 5);
        due("SIDES 1", x.told(0, 5), 1);
        due("SIDES 1: LEFT", x.lay(0, 1), 0);
        due("SIDES 1: RIGHT", x.lay(0, 2), -3);
        due("SIDES 2", x.told(1, 5), 2);
        due("SIDES 2: LEFT", x.lay(1, 1), -3);
        due("SIDES 2: RIGHT", x.lay(1, 2), 0);
        due("SIDES 3", x.told(2, 5), 3);
        due("SIDES 3: LEFT", x.lay(2, 1), 0);
        due("SIDES 3: RIGHT", x.lay(2, 2), 1);
        Given.law(x, "counts 8; moves 30; asks 1;");
        due("another text: COUNTS", x.told(2, 4), 8);
        due("another text: MOVING", x.told(2, 6), 30);
        check.says("0 CARD: that; 3; that.");
        kind(0, 100, 3, 20);
        kind(9, 100, 3, 20);
        check.says("1 TWICE (a CARD): COUNTS twice as much.");
        kind(10, 200, 3, 20);
        kind(17, 200, 3, 20);
        check.says("2 BOUND (a CARD): SIDES MORE modulo 2, and 1; MOVING 3 more.");
        kind(20, 100, 1, 23);
        kind(21, 100, 2, 23);
        kind(28, 100, 1, 23);
        kind(29, 100, 2, 23);
        check.says("3 GREAT (a TWICE): COUNTS MORE more; MOVING twice as much.");
        kind(30, 200, 3, 40);
        kind(39, 209, 3, 40);
        check.says("4 DEBT (a BOUND): COUNTS as much with the other sign.");
        kind(40, -100, 1, 23);
        kind(49, -100, 2, 23);
        x = Given.kinds(40, 7);
        Given.law(x, "counts -number; moves 1; asks 1;");
        due("the other sign of -7", x.told(0, 4), 7);
        check.says("5 BLANK (a CARD): COUNTS MORE; MOVING 0.");
        kind(50, 0, 3, 0);
        kind(59, 9, 3, 0);
        check.says("(Whatever isn't told is as of the KIND above.)");
        kind(13, 200, 3, 20);
        kind(33, 203, 3, 40);
        kind(43, -100, 2, 23);
        kind(44, -100, 1, 23);
        kind(53, 3, 3, 0);
    }

    // ---- texts

    private static void fault(String text, int place) {
        due("text of '" + text + "'", Given.text(new TwoHeapsAlike(), text), -100 - place);
    }

    private static void faultOfCounts(String expression, int place) {
        fault("counts " + expression + "; moves 1; asks 1;", 7 + place);
    }

    private static void reads(String text) {
        due("text of '" + text + "'", Given.text(new TwoHeapsAlike(), text), 1);
    }

    private static void readsCounts(String expression) {
        reads("counts " + expression + "; moves 1; asks 1;");
    }

    /** What a law says of CARD 1 of four, a GREAT that tells 40 with MORE 7, did it lie to the LEFT. */
    private static void says(String expression, int want) {
        TwoHeapsAlike x = Given.kinds(0, 5, 37, 40, 0, 6, 0, 8);
        Given.law(x, "counts " + expression + "; moves 1; asks 1;");
        due("'" + expression + "'", x.asks(0, 1, 1), want);
    }

    private static String blanks(int n) {
        return " ".repeat(n);
    }

    private static void tokens() {
        check.says("A TEXT is read from THE TAPE (160 bytes at most).");
        String text = "counts number+1;moves 1;asks 1;";
        reads(text + blanks(160 - text.length()));
        reads(blanks(160 - text.length()) + text);
        TwoHeapsAlike x = new TwoHeapsAlike();
        Given.tape(x, text + blanks(160 - text.length()));
        due("160 bytes", x.count(5), 160);
        due("one more", x.feed(1, 32, 0, 0, 0, 0), -4);
        check.says("TOKENS, each as long as can be: WORDS (as many letters a .. z as stand there),");
        reads("counts1;moves 1;asks 1;");
        readsCounts("1or 2and not3");
        fault("countsnumber; moves 1; asks 1;", 0);
        faultOfCounts("numbermore", 0);
        faultOfCounts("1 or notleft", 5);
        faultOfCounts("1 oror 2", 2);
        faultOfCounts("Number", 0);
        faultOfCounts("`left", 0);
        faultOfCounts("left{", 4);
        check.says("NUMBERS (as many digits as stand there; more than 4 are too long),");
        readsCounts("0");
        readsCounts("9999");
        readsCounts("0000");
        says("0012", 12);
        says("0999 - 900", 99);
        faultOfCounts("10000", 0);
        faultOfCounts("00000", 0);
        faultOfCounts("1234 5", 5);
        check.says("SIGNS ( ) ; + - * < = ;");
        readsCounts("(1+2-3)*4<5");
        readsCounts("1=2");
        for (char sign : "!\"#$%&',./:>?@[\\]^_{|}~".toCharArray()) {
            faultOfCounts("1 " + sign + " 2", 2);
        }
        check.says("blanks (32, 10) may stand between.");
        reads("counts 1;moves 1;asks 1;");
        reads("counts1;moves1;asks1;");
        reads("\n \ncounts \n 1\n;\nmoves 1 ; asks\n1;\n \n");
        faultOfCounts("1\t+ 2", 1);
        faultOfCounts("1\r+ 2", 1);
        faultOfCounts("12 34", 3);
        fault("cou nts 1; moves 1; asks 1;", 0);
    }

    private static void grammar() {
        check.says("TEXT: counts E ; moves E ; asks E ;");
        reads("counts 1; moves 2; asks 3;");
        fault("moves 1; counts 1; asks 1;", 0);
        fault("counts 1; asks 1; moves 1;", 10);
        fault("counts 1; moves 1; moves 1;", 19);
        fault("counts 1 moves 1; asks 1;", 9);
        fault("counts ; moves 1; asks 1;", 7);
        fault("counts 1; moves ; asks 1;", 16);
        fault("counts 1; moves 1; asks ;", 24);
        fault("counts 1; moves 1; asks 1; ;", 27);
        fault("counts 1; moves 1; asks 1; counts 1;", 27);
        check.says("E: AND { or AND }.");
        readsCounts("1 or 2 or 3");
        says("1 or 0 and 0", 1);
        faultOfCounts("1 or or 2", 5);
        faultOfCounts("or 1", 0);
        faultOfCounts("1 or", 4);
        check.says("AND: NOT { and NOT }.");
        readsCounts("1 and not 2 and 3");
        says("0 and 0 or 1", 1);
        says("not 0 and 0", 0);
        faultOfCounts("1 and and 2", 6);
        faultOfCounts("and 1", 0);
        faultOfCounts("1 and", 5);
        check.says("NOT: not NOT, or SUM, perhaps < or = and a SUM.");
        readsCounts("not not 1");
        says("not not 5", 1);
        says("not 2 < 3", 0);
        says("not 3 = 4", 1);
        says("1 + 1 = 2", 1);
        says("4 < 1 + 4", 1);
        faultOfCounts("1 < 2 < 3", 6);
        faultOfCounts("1 = 2 = 3", 6);
        faultOfCounts("1 < 2 = 3", 6);
        faultOfCounts("1 < not 2", 4);
        faultOfCounts("1 <", 3);
        faultOfCounts("< 1", 0);
        faultOfCounts("1 not 2", 2);
        check.says("SUM: TERM { + or - TERM }.");
        says("10 - 3 - 2", 5);
        says("10 - 3 + 2", 9);
        says("1 + 2 + 3", 6);
        faultOfCounts("1 + + 2", 4);
        faultOfCounts("+ 1", 0);
        faultOfCounts("1 + not 2", 4);
        faultOfCounts("1 -", 3);
        check.says("TERM: ONE { * ONE }.");
        says("2 + 3 * 4", 14);
        says("2 * 3 + 4", 10);
        says("2 * 3 * 4", 24);
        faultOfCounts("2 * * 3", 4);
        faultOfCounts("* 1", 0);
        faultOfCounts("2 *", 3);
        check.says("ONE: a NUMBER, a NAME, - ONE, ( E ).");
        says("(2 + 3) * 4", 20);
        says("(1 or 0) + 5", 6);
        says("-3 + 5", 2);
        says("-2 * -3", 6);
        says("- - 3", 3);
        says("-(1 + 2)", -3);
        says("5 - -number", 45);
        faultOfCounts("()", 1);
        faultOfCounts("(1", 2);
        faultOfCounts("(1 2)", 3);
        faultOfCounts("1)", 1);
        faultOfCounts("1 2", 2);
        faultOfCounts("1 number", 2);
        faultOfCounts("- not 2", 2);
        check.says("NAMES: number more card many kind left.");
        readsCounts("number + more + card + many + kind + left");
        for (String word : new String[] {"numbe", "numbers", "moree", "cards", "man", "kinds", "leftt", "right", "told"}) {
            faultOfCounts(word, 0);
        }
    }

    /** All that can wait for its other side, in six levels. */
    private static void deepest() {
        String level = "0or 1and 0<0+1*";
        says(level + "(" + level + "(" + level + "(" + level + "(" + level + "(" + level + "1)))))", 1);
        says(level + "(" + level + "(" + level + "(" + level + "(" + level + "(" + level + "0)))))", 0);
    }

    private static void values() {
        deepest();
        check.says("An E is an int (32 bits, wrapping):");
        // 9999 * 9999 * 43 = 4299140043, which is 4172747 beyond 2 to the 32nd.
        says("9999 * 9999 * 43 = 4172 * 1000 + 747", 1);
        says("9999 * 9999 * 22 < 0", 1);
        // 2 to the 31st, by steps: 32768 * 65536.
        says("4096 * 8 * 4096 * 16 < 0", 1);
        says("4096 * 8 * 4096 * 16 - 1 < 0", 0);
        says("-(4096 * 8 * 4096 * 16) < 0", 1);
        says("4096 * 4096 * 256 = 0", 1);
        says("4096 * 8 * 4096 * 16 - 1 + 1 < 0", 1);
        check.says("of or, and, not, <, = 1 or 0 (what is not 0 is true).");
        says("0 or 7", 1);
        says("-7 or 0", 1);
        says("0 or 0", 0);
        says("5 and -7", 1);
        says("1 and 2", 1);
        says("5 and 0", 0);
        says("0 and 5", 0);
        says("not 5", 0);
        says("not -1", 0);
        says("not 0", 1);
        says("2 < 3", 1);
        says("3 < 3", 0);
        says("4 < 3", 0);
        says("-1 < 0", 1);
        says("3 = 3", 1);
        says("3 = 4", 0);
        says("4 = 3", 0);
    }

    private static void faults() {
        check.says("FAULT: the place of the first byte of the first TOKEN that can't stand there");
        fault("asks 1;", 0);
        fault("  asks 1;", 2);
        fault("counts 1; moves 1; asks 1;x", 26);
        fault("counts 1; moves 1; asks 1; 9", 27);
        faultOfCounts("1    moves", 5);
        faultOfCounts("1 2 3 $", 2);
        faultOfCounts("counts", 0);
        check.says("(the text's size, if it ends too early),");
        fault("", 0);
        fault(" \n ", 3);
        fault("counts", 6);
        fault("counts  ", 8);
        fault("counts 1; moves 1; asks 1", 25);
        fault("counts 1; moves 1; asks 1 \n", 27);
        fault("counts (1", 9);
        fault("counts 1" + blanks(152), 160);
        check.says("also of a byte that begins none,");
        fault("$", 0);
        faultOfCounts("1 /2", 2);
        faultOfCounts("1 + ?", 4);
        fault("counts 1; moves 1; asks 1;\0", 26);
        fault("counts 1; moves 1; asks 1; \u00ff", 27);
        fault("counts 1; moves 1; asks 1;" + blanks(133) + "$", 159);
        check.says("of a WORD that is neither KEY nor NAME,");
        fault("count 1; moves 1; asks 1;", 0);
        faultOfCounts("foo", 0);
        faultOfCounts("1 + xumber", 4);
        faultOfCounts("1 xor 2", 2);
        faultOfCounts("(no 1)", 1);
        check.says("a NUMBER that is too long,");
        faultOfCounts("12345", 0);
        faultOfCounts("1+00001", 2);
        faultOfCounts("1 99999", 2);
    }

    private static void open() {
        check.says("a ( , a not, a - ahead of a ONE while 5 of these are open");
        readsCounts("(((((1)))))");
        faultOfCounts("((((((1))))))", 5);
        readsCounts("-----1");
        faultOfCounts("------1", 5);
        readsCounts("1 - - - - - - 1");
        faultOfCounts("1 - - - - - - - 1", 14);
        readsCounts("not not not not not 1");
        faultOfCounts("not not not not not not 1", 20);
        readsCounts("(not(-(1)))");
        faultOfCounts("(not(-(-1", 7);
        faultOfCounts("(not(-((1", 7);
        faultOfCounts("not not not not not - 1", 20);
        faultOfCounts("not not not not not (1)", 20);
        faultOfCounts("not not not not not 1 < -1", 24);
        faultOfCounts("(((((not 1)))))", 5);
        faultOfCounts("(((((-1)))))", 5);
        faultOfCounts("-----(1)", 5);
        faultOfCounts("((((((", 5);
        fault("counts 1; moves ((((((1)))))); asks 1;", 21);
        fault("counts 1; moves 1; asks ------1;", 29);
        check.says("(a ( till its ) , not and - till what they belong to ends).");
        readsCounts("((((1)+(2))+(3))+(4))+(((((5)))))");
        readsCounts("((((-1)+-1)*-1)or not 1)+(((((1)))))");
        readsCounts("((not(-1<2)and not(not 1)))and -----1-----1");
        readsCounts("-1 + -1 + -1 + -1 + -1 + -1 + -1");
        readsCounts("not 1 and not 1 and not 1 and not 1 and not 1 and not 1 and (((((1)))))");
        readsCounts("not 1 or (((((1)))))");
        readsCounts("-1 * (((((1)))))");
        readsCounts("(((((1-1-1)))))");
        readsCounts("not not not not -1 + -1 < -1");
        faultOfCounts("not 1 < (((((1)))))", 12);
        faultOfCounts("not -1 + (((((1)))))", 13);
        TwoHeapsAlike x = new TwoHeapsAlike();
        due("none is open behind a part", Given.text(x, "counts -----1; moves (((((1))))); asks not not not not not 1;"), 1);
        due("a text that ends while five are open", Given.text(x, "counts ((((("), -112);
        due("none is open in the next text", Given.text(x, "counts (((((1))))); moves 1; asks 1;"), 2);
    }

    private static void texts() {
        check.says("TEXTS are numbered from 0 on, 6 at most;");
        TwoHeapsAlike x = Given.cards(7);
        due("one at first", x.count(3), 1);
        for (int t = 1; t < 6; t++) {
            due("TEXT " + t, Given.text(x, "counts " + 10 * t + "; moves 1; asks 1;"), t);
        }
        due("a seventh", Given.text(x, "counts 60; moves 1; asks 1;"), -4);
        due("six", x.count(3), 6);
        for (int t = 5; t > 0; t--) {
            x.force(t);
            due("COUNTS by TEXT " + t, x.told(0, 4), 10 * t);
        }
        check.says("TEXT 0, at first, and THE LAW: counts number ; moves 1 ; asks 1 ;");
        x = Given.kinds(7, 42);
        due("THE LAW at first", x.count(4), 0);
        for (int left = 0; left < 2; left++) {
            due("counts", x.asks(0, 0, left), 42);
            due("moves", x.asks(1, 0, left), 1);
            due("asks", x.asks(2, 0, left), 1);
        }
        check.says("(counts -999 .. 999, moves, asks 0 .. 99, else the bound),");
        bound("999", 999, 99);
        bound("1000", 999, 99);
        bound("99", 99, 99);
        bound("100", 100, 99);
        bound("98", 98, 98);
        bound("1", 1, 1);
        bound("0", 0, 0);
        bound("-1", -1, 0);
        bound("-998", -998, 0);
        bound("-999", -999, 0);
        bound("-1000", -999, 0);
        bound("9999 * 9999 * 22", -999, 0);
        bound("9999 * 9999 * 21", 999, 99);
        check.says("of a CARD: number: TOLD; more: MORE; card: its number; many: how many CARDS there are;"
            + " kind: KIND; left: 1, if it lies to the LEFT, else 0.");
        says("number", 40);
        says("more", 7);
        says("card", 1);
        says("many", 4);
        says("kind", 3);
        says("left", 1);
        x = Given.cards(5, 6, 7);
        Given.law(x, "counts 100 * left + 10 * many + card; moves 1; asks 1;");
        Given.lay(x, 1, 2);
        due("to the LEFT", x.told(0, 4), 130);
        due("to the RIGHT", x.told(1, 4), 31);
        due("ASIDE", x.told(2, 4), 32);
        x.drop();
        due("of two", x.told(0, 4), 120);
    }

    /** What all three parts say by an expression. */
    private static void bound(String expression, int counts, int others) {
        TwoHeapsAlike x = Given.cards(5);
        Given.law(x, "counts " + expression + "; moves " + expression + "; asks " + expression + ";");
        due("counts " + expression, x.asks(0, 0, 0), counts);
        due("moves " + expression, x.asks(1, 0, 0), others);
        due("asks " + expression, x.asks(2, 0, 0), others);
    }

    // ---- heaps

    private static void heaps() {
        check.says("A HEAP is a set of CARDS (as bits);");
        TwoHeapsAlike x = Given.cards(1, 10, 100);
        due("CARDS 0 and 2", x.heap(5, 0), 101);
        due("all of them", x.heap(7, 0), 111);
        due("none", x.heap(0, 0), 0);
        due("a CARD that is none", x.heap(8, 0), -100000);
        check.says("its SUM: what all of it COUNT together, its SQUARES: that of each times itself, together");
        x = Given.kinds(0, 3, 12, 5, 40, 4);
        due("SUM", x.heap(7, 0), 9);
        due("SQUARES", x.heap(7, 1), 125);
        check.says("(0, if it is empty),");
        due("SUM of none", x.heap(0, 0), 0);
        due("SQUARES of none", x.heap(0, 1), 0);
        check.says("as all CARDS lie now (but where it is told).");
        Given.law(x, "counts number + 100 * left; moves 1; asks 1;");
        due("SUM, all ASIDE", x.heap(3, 0), 13);
        x.lay(0, 1);
        due("SUM, one to the LEFT", x.heap(3, 0), 113);
        due("SQUARES, one to the LEFT", x.heap(3, 1), 103 * 103 + 100);
        due("SUM, one to the LEFT, of others", x.heap(6, 0), 6);
        x.lay(0, 2);
        due("SUM, one to the RIGHT", x.heap(3, 0), 13);
        // A PAIR's LEFT HEAP needn't lie there: 100 more only for a CARD that does.
        x = Given.cards(5, 105);
        Given.law(x, "counts number + 100 * left; moves 1; asks 1;");
        due("alike, all ASIDE", x.alike(0, 0), 0);
        x.lay(0, 1);
        due("alike, one to the LEFT", x.alike(0, 0), 2);
        // 1 3 3, and 3 3 3 if CARD 0 lies to the LEFT.
        x = Given.cards(1, 3, 3);
        Given.law(x, "counts number + 2 * left; moves 1; asks 1;");
        Given.sheet(x, 0, 9);
        int[][] want = {{0, 2, 1, 2, 2, 0, 6}, {1, 3, 2, 0, 1, -1, 9}};
        for (int side = 0; side < 2; side++) {
            x.lay(0, side);
            due("three, side " + side, x.three(0), want[side][0]);
            due("key, side " + side, x.key(3, 0), want[side][1]);
            due("question, side " + side, x.question(3, 0), want[side][2]);
            due("thirds, side " + side, x.thirds(2), want[side][3]);
            due("pigeon, side " + side, x.pigeon(0), want[side][4]);
            due("seen, side " + side, x.seen(0, 0), want[side][5]);
            due("film, side " + side, x.film(1, side == 0 ? 6 : 7, 1), 1);
            due("its SUM, side " + side, Given.isNumber(x, 1, 1, want[side][6]));
        }
        check.says("HEAPS are gone through as bits, from the least on.");
        x = Given.cards(3, 1, 2);
        due("of {0} and {1, 2} the first", x.key(3, 1), 1);
        due("of 1, 2, .. the first from 1 on", x.film(0, 1, 1), 1);
        due("its number", Given.isNumber(x, 0, 0, 1));
        check.says("APART: how far one SUM is from another one.");
        x = Given.cards(9, 4);
        Given.lay(x, 1, 2);
        due("9 and 4", x.fair(0, 1), 5);
        Given.lay(x, 2, 1);
        due("4 and 9", x.swap(1), 5);
        due("9 and 4, by lot", x.drawn(0, 1), 5);
    }

    private static void pairs() {
        check.says("A PAIR: a HEAP to the LEFT, one to the RIGHT, none empty,");
        due("0 and the empty one", Given.cards(0).alike(0, 0), 0);
        due("0 and 0", Given.cards(0, 0).alike(0, 0), 2);
        check.says("no CARD in both,");
        due("1 and 1: {0} {1}, {1} {0}", Given.cards(1, 1).alike(0, 0), 2);
        // {0, 2} and {1, 2} are of one SUM, too, but 2 is in both.
        due("1, 1, 4", Given.cards(1, 1, 4).alike(0, 0), 2);
        check.says("each of which MAY lie there,");
        due("two that MAY lie to the LEFT alone", Given.kinds(20, 5, 20, 5).alike(0, 0), 0);
        due("two that MAY lie to the RIGHT alone", Given.kinds(21, 5, 21, 5).alike(0, 0), 0);
        due("one of each", Given.kinds(21, 5, 20, 5).alike(0, 0), 1);
        due("one of each: the LEFT one", Given.kinds(21, 5, 20, 5).alike(0, 1), 2);
        due("where they lie now doesn't matter", lying(Given.cards(5, 5), 2, 1).alike(0, 1), 1);
        check.says("of one SUM;");
        due("5 and 6", Given.cards(5, 6).alike(0, 0), 0);
        due("5 and 5", Given.cards(5, 5).alike(0, 0), 2);
        due("5 and -5", Given.kinds(0, 5, 40, 5).alike(0, 0), 0);
        check.says("of sort 1 also of as many CARDS each,");
        due("1 2 3", Given.cards(1, 2, 3).alike(1, 0), 0);
        due("1 4 2 3", Given.cards(1, 4, 2, 3).alike(1, 0), 2);
        due("1 5: as many, but not of one SUM", Given.cards(1, 5).alike(1, 0), 0);
        check.says("of sort 2 of the same SQUARES, too.");
        due("1 4 2 3", Given.cards(1, 4, 2, 3).alike(2, 0), 0);
        due("1 5 6 2 3 7", Given.cards(1, 5, 6, 2, 3, 7).alike(2, 0), 2);
        due("5 and -5: the same SQUARES, but not of one SUM", Given.kinds(0, 5, 40, 5).alike(2, 0), 0);
        check.says("(First: by the LEFT one, then the RIGHT one.)");
        TwoHeapsAlike x = Given.cards(4, 2, 4, 4);
        due("4 2 4 4: the LEFT one", x.alike(0, 1), 1);
        due("4 2 4 4: the RIGHT one", x.alike(0, 2), 4);
        x = Given.kinds(21, 4, 0, 4, 0, 4);
        due("the LEFT one can't be {0}", x.alike(0, 1), 2);
        due("the RIGHT one can", x.alike(0, 2), 1);
    }

    private static TwoHeapsAlike lying(TwoHeapsAlike x, int left, int right) {
        Given.lay(x, left, right);
        return x;
    }

    // ---- lots, images, sheets

    private static void lots() {
        check.says("DRAWN by a SEED (0 .. 99999):");
        TwoHeapsAlike x = Given.cards(1, 2, 4);
        due("SEED -1", x.drawn(-1, 0), -2);
        due("SEED 0", x.drawn(0, 0) >= 0);
        due("SEED 99999", x.drawn(99999, 0) >= 0);
        due("SEED 100000", x.drawn(100000, 0), -2);
        // By hand: LOTS of SEED 0 are 48271 (odd), 182605794 (even), 1291394886 (even); of SEED 1 96542, 365211588, 435306125.
        check.says("all CARDS, by numbers, a LOT each: one that MAY lie on both SIDES lies to the LEFT,"
            + " if LOT is even, else to the RIGHT;");
        due("SEED 0", x.drawn(0, 0), 6);
        due("SEED 1", x.drawn(1, 0), 3);
        due("one CARD, SEED 0", Given.cards(5).drawn(0, 0), 0);
        due("one CARD, SEED 1", Given.cards(5).drawn(1, 0), 1);
        check.says("others as they MAY.");
        due("LEFT alone, by odd LOTS, too", Given.kinds(20, 1, 20, 1, 40, 1).drawn(0, 0), 7);
        due("RIGHT alone, by even LOTS, too", Given.kinds(21, 1, 21, 1, 41, 1).drawn(0, 0), 0);
        due("they have a LOT, too", Given.kinds(21, 1, 0, 1, 0, 1).drawn(1, 0), 2);
        due("and it isn't the next one's", Given.kinds(20, 1, 20, 1, 0, 1).drawn(1, 0), 3);
        check.says("LOTS: the first is (SEED and 1) times 48271 modulo 2147483647,");
        for (int seed : new int[] {0, 1, 44488, 44489, 88976, 99998, 99999}) {
            long lot = (seed + 1L) * 48271 % 2147483647;
            due("SEED " + seed, Given.cards(1).drawn(seed, 0), lot % 2 == 0 ? 1 : 0);
        }
        check.says("each further one the last times 48271 modulo 2147483647.");
        due("SEED 0, ten of them", Given.cards(1, 1, 1, 1, 1, 1, 1, 1, 1, 1).drawn(0, 0), lotsByHand());
    }

    /** 48271 ^ n modulo 2147483647 for n from 1 to 10, as tables of this generator tell them. */
    private static int lotsByHand() {
        long[] lots = {48271, 182605794, 1291394886, 1914720637, 2078669041, 407355683, 1105902161, 854716505,
            564586691, 1596680831};
        int left = 0;
        for (int c = 0; c < lots.length; c++) {
            left |= lots[c] % 2 == 0 ? 1 << c : 0;
        }
        return left;
    }

    private static void images() {
        check.says("AN IMAGE keeps CARDS, where they lie, THE LAW.");
        TwoHeapsAlike x = Given.kinds(23, 31, 14, 15);
        Given.text(x, "counts 1; moves 1; asks 1;");
        x.force(1);
        Given.lay(x, 2, 1);
        x.image();
        x.force(0);
        Given.lay(x, 0, 0);
        x.drop();
        x.drop();
        x.card(0, 1);
        x.back();
        due("CARDS", x.count(0), 2);
        due("KIND", x.told(0, 0), 2);
        due("MORE", x.told(1, 2), 4);
        due("TOLD", x.told(1, 1), 15);
        due("to the LEFT", x.count(1), 2);
        due("to the RIGHT", x.count(2), 1);
        due("THE LAW", x.count(4), 1);
    }

    private static void sheets() {
        check.says("SHEETS 0 .. 3 are rows of numbers, or missing (as all are at first):");
        TwoHeapsAlike x = new TwoHeapsAlike();
        for (int s = 0; s < 4; s++) {
            due("SHEET " + s + " at first", x.seen(s, 0), -11);
            due("a row", x.sheet(s, 2, 1), 1);
            due("SHEET " + s, x.seen(s, 0), -1);
        }
        due("SHEET 4", x.sheet(4, 2, 1), -2);
        due("SHEET -1", x.sheet(-1, 2, 1), -2);
        check.says("of sort 0 bytes, 1 shorts, 2 ints, 40 at most.");
        for (int sort = 0; sort < 3; sort++) {
            due("41 of sort " + sort, x.sheet(0, sort, 41), -2);
            due("40 of sort " + sort, x.sheet(0, sort, 40), 1);
            x.cell(0, 39, 0x10102);
            x.card(0, sort == 0 ? 2 : 258);
            due("the last one, of 65536 + 258", x.seen(0, 0), sort == 2 ? 39 : -1);
            x.drop();
        }
        due("sort 3", x.sheet(0, 3, 1), -2);
    }

    public static void main(String[] args) throws Exception {
        check = new Check("TermsTest", args[0], Document.USE, Document.TERMS);
        use();
        cards();
        kinds();
        tokens();
        grammar();
        values();
        faults();
        open();
        texts();
        heaps();
        pairs();
        lots();
        images();
        sheets();
        check.end();
    }
}
