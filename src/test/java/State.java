/** All that an object holds, as far as its calls tell it; the object is used up by that. */
final class State {
    /** The beginning of a TEXT that THE TAPE should hold, and what is missing of it. */
    static final String BEGUN = "counts number + 3; mo", REST = "ves 2; asks card;";
    private final TwoHeapsAlike x;
    private final StringBuilder all = new StringBuilder();

    private State(TwoHeapsAlike x) {
        this.x = x;
    }

    static String of(TwoHeapsAlike x) {
        State state = new State(x);
        state.table();
        Given.tape(x, REST);
        state.put("text", x.text());
        state.put("back", x.back());
        state.table();
        state.texts();
        state.sheets();
        return state.all.toString();
    }

    private void put(String what, long answer) {
        all.append(what).append(' ').append(answer).append('\n');
    }

    private void table() {
        for (int what = 0; what < 6; what++) {
            put("count " + what, x.count(what));
        }
        for (int c = 0; c < x.count(0) && c < 10; c++) {
            for (int what = 0; what < 7; what++) {
                put("told " + c + " " + what, x.told(c, what));
            }
        }
    }

    private void clear() {
        for (int c = 0; c < 10; c++) {
            x.drop();
        }
    }

    private void texts() {
        clear();
        x.card(37, 40);
        for (int t = 0; t < x.count(3) && t < 6; t++) {
            x.force(t);
            for (int part = 0; part < 3; part++) {
                put("asks by " + t + " " + part, x.asks(part, 0, 0));
                put("asks by " + t + " " + part + " to the LEFT", x.asks(part, 0, 1));
            }
        }
    }

    private void sheets() {
        for (int s = 0; s < 4; s++) {
            int sort = 0;
            while (sort < 3 && x.cardsBy(s, sort, 0, 0) != 0) {
                sort++;
            }
            int n = 0;
            while (sort < 3 && n < 40 && x.copy(s, 0, s, 0, n + 1) == n + 1) {
                n++;
            }
            put("sort of " + s, sort);
            put("size of " + s, n);
            for (int i = 0; i + 1 < n; i += 2) {
                clear();
                put("came", x.cardsBy(s, sort, i, 1));
                put("number " + i, 10 * x.told(0, 0) + x.told(0, 2));
                put("number " + (i + 1), x.told(0, 1));
            }
        }
    }
}
