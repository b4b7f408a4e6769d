import java.util.LinkedHashMap;
import java.util.Map;

/** What the terms say of refusals: which codes, in which order, and that neither they nor what is asked changes a thing. */
public final class RefusalsTest {
    private static final long NO = TwoHeapsAlike.NO;
    private static final Map<String, Call> ASKS = new LinkedHashMap<>();
    private static Check check;

    private interface Call {
        long on(TwoHeapsAlike x);
    }

    private static void due(String call, long got, long want) {
        check.due(call, got, want);
    }

    /**
     * Four CARDS, of which 0 lies to the LEFT, 1 to the RIGHT, 2 MAY lie to the LEFT alone; three TEXTS, of which 1 is
     * THE LAW; an IMAGE of three CARDS ASIDE; rows in SHEET 0, bytes in 1, shorts in 2; 3 is missing.
     */
    private static TwoHeapsAlike some() {
        TwoHeapsAlike x = Given.kinds(0, 3, 0, 4, 20, 8);
        Given.text(x, "counts number + left; moves 2; asks card;");
        Given.text(x, "counts 7; moves more; asks 3;");
        x.image();
        x.card(31, 6);
        x.lay(0, 1);
        x.lay(1, 2);
        x.force(1);
        Given.sheet(x, 0, 1, 4, 2, 5);
        x.sheet(1, 0, 2);
        x.cell(1, 0, 12);
        x.cell(1, 1, 100);
        x.sheet(2, 1, 4);
        x.cell(2, 0, 3);
        x.cell(2, 1, 500);
        Given.tape(x, State.BEGUN);
        return x;
    }

    /** Ten CARDS, six TEXTS, 158 bytes, an IMAGE of none; SHEET 0 a pair of ints, 1 of three bytes. */
    private static TwoHeapsAlike most() {
        TwoHeapsAlike x = new TwoHeapsAlike();
        x.image();
        for (int c = 0; c < 10; c++) {
            x.card(0, 0);
        }
        for (int t = 1; t < 6; t++) {
            Given.law(x, "counts " + t + " ;moves 1;asks 1;");
        }
        for (int i = 0; i < 31; i++) {
            x.feed(5, 1, 1, 1, 1, 1);
        }
        x.feed(3, 1, 1, 1, 0, 0);
        Given.sheet(x, 0, 0, 9);
        x.sheet(1, 0, 3);
        return x;
    }

    private static void same(String call, TwoHeapsAlike x, String before) {
        check.due(call + " changes nothing", State.of(x).equals(before));
    }

    /** It is refused so, and changes nothing. */
    private static void refused(String call, Call refused, long want) {
        TwoHeapsAlike x = some();
        due(call, refused.on(x), want);
        same(call, x, State.of(some()));
    }

    private static void refusedAtMost(String call, Call refused, long want) {
        TwoHeapsAlike x = most();
        due(call, refused.on(x), want);
        same(call, x, State.of(most()));
    }

    private static void first() {
        check.says("REFUSALS, of several the first one told:");
        due("feed: BAD, FULL", most().feed(5, 256, 0, 0, 0, 0), -2);
        due("text: FULL, FAULT", most().text(), -4);
        due("asks: CARD, part and side", some().asks(3, 4, 2), -10000);
        due("card: BAD, FULL", most().card(60, 0), -2);
        due("lay: CARD, side", some().lay(4, 3), -5);
        due("lay: side, STATE", some().lay(2, 4), -7);
        due("told: CARD, what", some().told(4, 7), -10000);
        due("heap: HEAP, what", some().heap(16, 3), -100000);
        due("question: BAD, FULL", most().question(0, 2), -2);
        due("question: BAD, none", some().question(-1, 2), -2);
        due("film: SHEET, HEAP and n", some().film(4, -1, 21), -2);
        due("seen: what, missing", some().seen(3, 2), -2);
        due("sheet: SHEET, size below 0", some().sheet(4, 0, -1), -2);
        due("sheet: sort, size below 0", some().sheet(0, 3, -1), -2);
        due("cell: SHEET, place", some().cell(4, -1, 0), -2);
        due("cell: missing, place", some().cell(3, -1, 0), -11);
        due("copy: SHEET, missing", some().copy(3, 0, 4, 0, 1), -2);
        due("copy: missing, place", some().copy(3, -1, 0, 0, 1), -11);
        due("copy: missing, n", some().copy(0, 0, 3, 0, -1), -11);
        due("copy: sort, place", some().copy(0, -1, 1, 0, 1), -13);
        due("copy: sort, n", some().copy(0, 0, 1, 0, -1), -13);
        due("cardsBy: sort, missing", some().cardsBy(3, 3, 0, 1), -2);
        due("cardsBy: n, missing", some().cardsBy(3, 0, 0, 11), -2);
        due("cardsBy: n, another sort", some().cardsBy(0, 0, 0, 11), -2);
        due("cardsBy: missing, place", some().cardsBy(3, 0, -1, 1), -11);
        due("cardsBy: another sort, place", some().cardsBy(0, 0, -1, 1), -13);
        due("taken: kind, i", some().taken(12, 7), -100000);
        due("taken: kind, nothing there", some().taken(11, 7), -100000);
        due("taken: nothing there, another KIND", new TwoHeapsAlike().taken(0, 0), -100011);
    }

    private static void codes() {
        check.says("NONE there is no such thing; BAD a number is not as told; STATE as told; FULL.");
        due("NONE", TwoHeapsAlike.NONE, -1);
        due("no such PAIR", Given.cards(1).alike(0, 1), TwoHeapsAlike.NONE);
        due("BAD", TwoHeapsAlike.BAD, -2);
        due("a number is not as told", some().count(6), TwoHeapsAlike.BAD);
        due("STATE", TwoHeapsAlike.STATE, -3);
        due("it MAY not lie there", some().lay(2, 2), TwoHeapsAlike.STATE);
        due("FULL", TwoHeapsAlike.FULL, -4);
        due("an eleventh CARD", most().card(0, 0), TwoHeapsAlike.FULL);
        due("NO", NO, -(1L << 62));
        due("no such CARD", some().more(0, 4), NO);
        check.says("The host's: -11 nothing there,");
        due("a missing SHEET", some().cell(3, 0, 0), -11);
        check.says("-12 a place outside,");
        due("place 4 of four", some().cell(0, 4, 0), -12);
        check.says("-13 of another sort or KIND,");
        due("ints to bytes", some().copy(0, 0, 1, 0, 1), -13);
        due("a CARD as a TWICE", some().taken(2, 1), -100000 - 13);
        check.says("-14 a size below 0.");
        due("-1 numbers", some().sheet(0, 0, -1), -14);
    }

    private static void refusedLawsAndCards() {
        refused("count", x -> x.count(6), -2);
        refused("feed, n", x -> x.feed(6, 1, 1, 1, 1, 1), -2);
        refused("feed, a byte", x -> x.feed(2, 32, 256, 0, 0, 0), -2);
        refusedAtMost("feed, no room", x -> x.feed(3, 1, 1, 1, 1, 1), -4);
        refusedAtMost("text", TwoHeapsAlike::text, -4);
        refused("force", x -> x.force(3), -2);
        refused("asks, CARD", x -> x.asks(0, 4, 0), -10000);
        refused("asks, part", x -> x.asks(3, 0, 0), -20000);
        refused("card", x -> x.card(60, 0), -2);
        refused("card, TOLD", x -> x.card(0, 1000), -2);
        refusedAtMost("card, no room", x -> x.card(0, 0), -4);
        TwoHeapsAlike none = new TwoHeapsAlike();
        due("drop", none.drop(), -3);
        same("drop", none, State.of(new TwoHeapsAlike()));
        refused("lay, CARD", x -> x.lay(4, 1), -5);
        refused("lay, side", x -> x.lay(0, 3), -7);
        refused("lay, where it MAY not lie", x -> x.lay(2, 2), -3);
        refused("told", x -> x.told(4, 0), -10000);
        refused("told, what", x -> x.told(0, 7), -20000);
    }

    private static void refusedHeaps() {
        refused("heap", x -> x.heap(16, 0), -100000);
        refused("alike", x -> x.alike(3, 0), -2);
        refused("three", x -> x.three(4), -2);
        refused("fair", x -> x.fair(2, 0), -2);
        refused("thirds", x -> x.thirds(3), -2);
        refused("swap", x -> x.swap(2), -2);
        refused("mend", x -> x.mend(-1, 0), -2);
        refused("unlike", x -> x.unlike(2), -2);
        refused("key", x -> x.key(0, 4), -2);
        refused("pigeon", x -> x.pigeon(3), -2);
        refused("question", x -> x.question(0, 2), -2);
        refused("question, none", x -> x.question(-900, 0), -5);
        refusedAtMost("question, more than twelve", x -> x.question(25, 0), -4);
    }

    private static void refusedToldAndLots() {
        refused("judge", x -> x.judge(4), -2);
        refused("judge, missing", x -> x.judge(3), -11);
        refused("blame", x -> x.blame(3), -11);
        refused("more", x -> x.more(3, 0), NO);
        refused("more, CARD", x -> x.more(0, 4), NO);
        refused("laws", x -> x.laws(3), -11);
        refusedAtMost("judge, three numbers", x -> x.judge(1), -2);
        refusedAtMost("laws, three numbers", x -> x.laws(1), -2);
        refused("film", x -> x.film(4, 0, 1), -2);
        refused("film, HEAP", x -> x.film(0, 16, 1), -7);
        refused("film, n", x -> x.film(0, 0, 21), -7);
        refused("seen", x -> x.seen(3, 0), -11);
        refused("drawn", x -> x.drawn(-1, 0), -2);
        refused("deal", x -> x.deal(100000), -2);
        refused("odds", x -> x.odds(0, 41, 0, 0), NO);
        TwoHeapsAlike none = new TwoHeapsAlike();
        none.card(0, 5);
        due("back", none.back(), -3);
        same("back", none, State.of(Given.cards(5)));
    }

    private static void refusedHost() {
        refused("sheet", x -> x.sheet(4, 0, 1), -2);
        refused("sheet, sort", x -> x.sheet(0, 3, 1), -2);
        refused("sheet, n", x -> x.sheet(0, 1, 41), -2);
        refused("sheet, n below 0", x -> x.sheet(0, 1, -1), -14);
        refused("cell", x -> x.cell(4, 0, 1), -2);
        refused("cell, missing", x -> x.cell(3, 0, 1), -11);
        refused("cell, outside", x -> x.cell(0, 4, 1), -12);
        refused("copy", x -> x.copy(4, 0, 0, 0, 1), -2);
        refused("copy, missing", x -> x.copy(0, 0, 3, 0, 1), -11);
        refused("copy, unlike sorts", x -> x.copy(1, 0, 2, 0, 1), -13);
        refused("copy, outside", x -> x.copy(0, 0, 0, 2, 3), -12);
        refused("cardsBy", x -> x.cardsBy(0, 2, 0, 11), -2);
        refused("cardsBy, missing", x -> x.cardsBy(3, 0, 0, 1), -11);
        refused("cardsBy, another sort", x -> x.cardsBy(1, 1, 0, 1), -13);
        refused("cardsBy, the first one outside", x -> x.cardsBy(1, 0, 1, 1), -12);
        refused("taken", x -> x.taken(0, 7), -100000);
        refused("taken, outside", x -> x.taken(12, 0), -100012);
        refused("taken, nothing there", x -> x.taken(11, 0), -100011);
        refused("taken, another KIND", x -> x.taken(0, 0), -100013);
    }

    private static void told() {
        TwoHeapsAlike x = some();
        due("by a FAULT THE TAPE is empty", x.text(), -100 - State.BEGUN.indexOf("mo"));
        due("by a FAULT THE TAPE is empty: bytes", x.count(5), 0);
        x = some();
        due("ahead of a place outside CARDS came", x.cardsBy(0, 2, 0, 3), -12);
        due("ahead of a place outside CARDS came: how many", x.count(0), 6);
    }

    private static void ask(String call, Call asked) {
        ASKS.put(call, asked);
    }

    static {
        ask("count(0)", x -> x.count(0));
        ask("count(1)", x -> x.count(1));
        ask("count(2)", x -> x.count(2));
        ask("count(3)", x -> x.count(3));
        ask("count(4)", x -> x.count(4));
        ask("count(5)", x -> x.count(5));
        ask("asks(0, 1, 1)", x -> x.asks(0, 1, 1));
        ask("asks(1, 1, 0)", x -> x.asks(1, 1, 0));
        ask("asks(2, 0, 1)", x -> x.asks(2, 0, 1));
        ask("told(0, 3)", x -> x.told(0, 3));
        ask("told(1, 4)", x -> x.told(1, 4));
        ask("told(2, 6)", x -> x.told(2, 6));
        ask("heap(7, 0)", x -> x.heap(7, 0));
        ask("heap(7, 1)", x -> x.heap(7, 1));
        ask("heap(7, 2)", x -> x.heap(7, 2));
        ask("apart()", TwoHeapsAlike::apart);
        ask("must()", TwoHeapsAlike::must);
        for (int sort = 0; sort < 3; sort++) {
            int of = sort;
            ask("alike(" + of + ", 0)", x -> x.alike(of, 0));
            ask("alike(" + of + ", 1)", x -> x.alike(of, 1));
            ask("alike(" + of + ", 2)", x -> x.alike(of, 2));
            ask("alike(" + of + ", 3)", x -> x.alike(of, 3));
        }
        ask("three(0)", x -> x.three(0));
        ask("three(1)", x -> x.three(1));
        ask("three(3)", x -> x.three(3));
        ask("fair(0, 0)", x -> x.fair(0, 0));
        ask("fair(1, 1)", x -> x.fair(1, 1));
        ask("thirds(0)", x -> x.thirds(0));
        ask("thirds(2)", x -> x.thirds(2));
        ask("swap(0)", x -> x.swap(0));
        ask("swap(1)", x -> x.swap(1));
        ask("mend(0, 0)", x -> x.mend(0, 0));
        ask("mend(9999, 1)", x -> x.mend(9999, 1));
        ask("unlike(0)", x -> x.unlike(0));
        ask("unlike(1)", x -> x.unlike(1));
        ask("next()", TwoHeapsAlike::next);
        ask("spread()", TwoHeapsAlike::spread);
        for (int what = 0; what < 4; what++) {
            int of = what;
            ask("key(4, " + of + ")", x -> x.key(4, of));
            ask("key(-99, " + of + ")", x -> x.key(-99, of));
        }
        ask("pigeon(0)", x -> x.pigeon(0));
        ask("pigeon(1)", x -> x.pigeon(1));
        ask("pigeon(2)", x -> x.pigeon(2));
        ask("question(4, 0)", x -> x.question(4, 0));
        ask("question(4, 1)", x -> x.question(4, 1));
        ask("question(0, 0)", x -> x.question(0, 0));
        ask("question(0, 1)", x -> x.question(0, 1));
        ask("judge(0)", x -> x.judge(0));
        ask("blame(0)", x -> x.blame(0));
        ask("more(0, 1)", x -> x.more(0, 1));
        ask("laws(0)", x -> x.laws(0));
        ask("seen(0, 0)", x -> x.seen(0, 0));
        ask("seen(0, 1)", x -> x.seen(0, 1));
        ask("drawn(7, 0)", x -> x.drawn(7, 0));
        ask("drawn(7, 1)", x -> x.drawn(7, 1));
        ask("odds(7, 40, 3, 0)", x -> x.odds(7, 40, 3, 0));
        ask("taken(0, 6)", x -> x.taken(0, 6));
        ask("taken(2, 0)", x -> x.taken(2, 0));
    }

    private static void asked(String call, Call asked) {
        TwoHeapsAlike x = some();
        asked.on(x);
        same(call, x, State.of(some()));
        x = most();
        asked.on(x);
        same(call + ", ten CARDS", x, State.of(most()));
    }

    /** What one answers doesn't depend on what was asked before. */
    private static void askedBehind(String call, Call asked) {
        for (Map.Entry<String, Call> before : ASKS.entrySet()) {
            TwoHeapsAlike x = debts();
            before.getValue().on(x);
            due(call + " behind " + before.getKey(), asked.on(x), asked.on(debts()));
            x = few();
            before.getValue().on(x);
            due("of few " + call + " behind " + before.getKey(), asked.on(x), asked.on(few()));
        }
    }

    /** Seven CARDS, two of which COUNT less than 0, and a row that is not so. */
    private static TwoHeapsAlike debts() {
        TwoHeapsAlike x = Given.kinds(0, 1, 40, 2, 0, 4, 12, 5, 41, 9, 30, 3, 0, 19);
        Given.lay(x, 3, 28);
        Given.sheet(x, 0, 3, 5);
        return x;
    }

    private static TwoHeapsAlike few() {
        TwoHeapsAlike x = Given.cards(4, 1, 8);
        Given.lay(x, 2, 1);
        Given.text(x, "counts 2; moves 2; asks 2;");
        return x;
    }

    /** What is asked of few CARDS doesn't depend on what was asked of other ones. */
    private static void askedOfOthers() {
        TwoHeapsAlike x = few();
        x.image();
        x.force(1);
        for (int c = 0; c < 3; c++) {
            x.drop();
        }
        for (int c = 0; c < 10; c++) {
            x.card(c % 2 == 0 ? 12 : 40, 7 * c % 10);
            x.lay(c, 1);
        }
        x.sheet(0, 2, 40);
        for (int i = 0; i < 40; i++) {
            x.cell(0, i, 1023);
        }
        ASKS.forEach((call, asked) -> asked.on(x));
        x.force(0);
        ASKS.forEach((call, asked) -> asked.on(x));
        x.back();
        Given.sheet(x, 0, 2, 3, 5, 14);
        TwoHeapsAlike y = few();
        Given.sheet(y, 0, 2, 3, 5, 14);
        ASKS.forEach((call, asked) -> due(call + " behind all of ten other CARDS", asked.on(x), asked.on(y)));
    }

    private static void asking() {
        ASKS.forEach(RefusalsTest::asked);
        ASKS.forEach(RefusalsTest::askedBehind);
        askedOfOthers();
    }

    public static void main(String[] args) throws Exception {
        check = new Check("RefusalsTest", args[0], Document.REFUSALS);
        check.section(Document.REFUSALS);
        first();
        codes();
        check.says("They change nothing,");
        refusedLawsAndCards();
        refusedHeaps();
        refusedToldAndLots();
        refusedHost();
        check.says("but where it is told.");
        told();
        check.says("What is asked changes nothing, but where it is told.");
        asking();
        check.end();
    }
}
