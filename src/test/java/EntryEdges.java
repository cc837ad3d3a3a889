/** The boundaries of promises 14 to 17: ENTRIES, what stands in them, where they cross. */
final class EntryEdges extends Edges {
    EntryEdges(Sentences said) {
        super(said);
    }

    @Override
    void all() {
        entries();
        runs();
        white();
        entry();
        order();
        entryRefused();
        stands();
        standsRefused();
        crossing();
        crossingRefused();
    }

    /** A GRID 0 by its rows. */
    private Desk drawn(String... rows) {
        Desk x = desk();
        x.draw(0, rows);
        return x;
    }

    private void entries() {
        test(14, "How many ENTRIES a GRID has.");
        due(drawn().entries(0), 0);
        due(drawn(".").entries(0), 0);
        due(drawn("..").entries(0), 1);
        due(drawn(".", ".").entries(0), 1);
        due(drawn("..", "..").entries(0), 4);
        due(drawn("##", "##").entries(0), 0);
        Desk x = desk();
        x.grid(0, 7, 0);
        due(x.entries(0), 0);
        x.grid(0, 0, 7);
        due(x.entries(0), 0);
        x.grid(0, 7, 7);
        due(x.entries(0), 14);
        due(mostEntries().entries(0), 42);
        test(14, "BAD; NOTHING.");
        bad((y, g) -> y.entries(g), NO_GRID_NUMBERS);
        due(busy().entries(0), 2);
        finds(y -> y.entries(3), NOTHING);
        Desk y = desk();
        y.grid(3, 2, 2);
        due(y.entries(3), 4);
        due(y.entries(0), NOTHING);
        test(14, NOTHING_IS);
        finds(z -> z.entries(3), NOTHING);
        due(busy().entries(1), 2);
    }

    private void runs() {
        test(14, "ENTRIES across are runs of 2 or more WHITE SQUARES of a ROW side by side, without a BAR between, as long as "
            + "may be; down likewise, one below the other.");
        due(drawn("..#..#.").entries(0), 2);
        due(drawn(".#.#.#.").entries(0), 0);
        due(drawn(".", ".", "#", ".", ".", "#", ".").entries(0), 2);
        due(drawn(".", "#", ".", "#", ".", "#", ".").entries(0), 0);
        due(drawn(".#", "#.").entries(0), 0);
        for (int length = 2; length <= 7; length++) {
            Desk x = desk();
            x.grid(0, 1, length);
            due(x.entry(0, 0, 3), length);
            x.grid(1, length, 1);
            due(x.entry(1, 0, 3), length);
            x.bar(0, 0, 0, false, true);
            x.bar(1, 0, 0, true, true);
            due(x.entries(0), length == 2 ? 0 : 1);
            due(x.entries(1), length == 2 ? 0 : 1);
            due(x.entry(0, 0, 3), length == 2 ? BEYOND : length - 1);
            due(x.entry(1, 0, 3), length == 2 ? BEYOND : length - 1);
        }
        otherBars();
    }

    /** A BAR below a SQUARE parts no run across, one to its right none down; nor does one behind the last SQUARE. */
    private void otherBars() {
        Desk x = drawn("..", "..");
        x.bar(0, 0, 0, true, true);
        due(x.entries(0), 3);
        due(x.entry(0, 0, 3), 2);
        due(x.entry(0, 0, 2), 0);
        x.bar(0, 0, 0, true, false);
        x.bar(0, 0, 0, false, true);
        due(x.entries(0), 3);
        due(x.entry(0, 0, 2), 1);
        Desk y = drawn("...", "...");
        y.cut(0, 0, 2);
        y.bar(0, 0, 1, false, true);
        due(y.entry(0, 0, 3), 2);
        due(y.entries(0), 4);
        y.bar(0, 0, 1, false, false);
        due(y.entries(0), 4);
    }

    private void white() {
        test(14, WHITE_IS);
        Desk x = drawn("..", "..", "..");
        due(x.entries(0), 5);
        x.black(0, 1, 0, true);
        due(x.entries(0), 3);
        x.black(0, 1, 0, false);
        x.letter(0, 1, 0, 26);
        due(x.entries(0), 5);
        x.cut(0, 1, 1);
        due(x.entries(0), 3);
        x.cut(0, 1, 0);
        due(x.entries(0), 2);
        x.cut(0, 1, -1);
        due(x.entries(0), 2);
        due(x.finding(), 0);
        x.cut(0, 0, -1);
        x.cut(0, 2, -1);
        due(x.entries(0), 0);
        due(x.finding(), 0);
        due(x.found(1), 0);
        int[] promises = {15, 16, 17};
        for (int promise : promises) {
            test(promise, WHITE_IS);
            Desk y = drawn("AB", "..", "CD");
            y.cut(0, 1, -1);
            due(promise == 15 ? y.entry(0, 1, 0) : promise == 16 ? y.stands(0, 1) : y.crossing(0, 0, 1),
                promise == 15 ? 2 : promise == 16 ? w("CD") : NONE);
            due(y.finding(), 0);
            due(y.entries(0), 2);
            due(y.found(1), 0);
            due(promise == 15 ? y.entry(0, 2, 0) : promise == 16 ? y.stands(0, 2) : y.crossing(0, 0, 2),
                promise == 16 ? 0 : BEYOND);
            due(y.finding(), 2);
        }
    }

    /** ROW, place, whether down, length and NUMBER of an ENTRY. */
    private void isEntry(Desk x, int k, int... want) {
        for (int what = 0; what < 5; what++) {
            due(x.entry(0, k, what), want[what]);
        }
    }

    private void entry() {
        test(15, "Of ENTRY k: what = 0 the ROW, 1 the place where it begins, 2 whether it goes down (1, 0), 3 its length, "
            + "4 its NUMBER.");
        Desk x = drawn("##....", "#...##");
        isEntry(x, 0, 0, 2, 0, 4, 1);
        isEntry(x, 1, 0, 2, 1, 2, 1);
        isEntry(x, 2, 0, 3, 1, 2, 2);
        isEntry(x, 3, 1, 1, 0, 3, 3);
        Desk y = desk();
        y.grid(0, 7, 7);
        isEntry(y, 0, 0, 0, 0, 7, 1);
        isEntry(y, 1, 0, 0, 1, 7, 1);
        isEntry(y, 7, 0, 6, 1, 7, 7);
        isEntry(y, 8, 1, 0, 0, 7, 8);
        isEntry(y, 13, 6, 0, 0, 7, 13);
        Desk z = drawn("######.", "######.");
        isEntry(z, 0, 0, 6, 1, 2, 1);
    }

    private void order() {
        test(15, "They are in order by where they begin, ROW by ROW from the left, across ahead of down; those that begin at "
            + "one SQUARE have one NUMBER, counted from 1 on in this order.");
        Desk x = drawn("..#..", ".....", "#.#..");
        isEntry(x, 0, 0, 0, 0, 2, 1);
        isEntry(x, 1, 0, 0, 1, 2, 1);
        isEntry(x, 2, 0, 1, 1, 3, 2);
        isEntry(x, 3, 0, 3, 0, 2, 3);
        isEntry(x, 4, 0, 3, 1, 3, 3);
        isEntry(x, 5, 0, 4, 1, 3, 4);
        isEntry(x, 6, 1, 0, 0, 5, 5);
        isEntry(x, 7, 2, 3, 0, 2, 6);
        due(x.entries(0), 8);
        // BARS, too, let ENTRIES begin.
        x.bar(0, 1, 1, false, true);
        x.bar(0, 0, 4, true, true);
        isEntry(x, 5, 1, 0, 0, 2, 4);
        isEntry(x, 6, 1, 2, 0, 3, 5);
        isEntry(x, 7, 1, 4, 1, 2, 6);
        isEntry(x, 8, 2, 3, 0, 2, 7);
        due(x.entries(0), 9);
    }

    private void entryRefused() {
        test(15, "BAD: GRID, what;");
        bad((x, g) -> x.entry(g, 0, 0), NO_GRID_NUMBERS);
        bad((x, what) -> x.entry(0, 0, what), -1, 5, MIN, MAX);
        bad((x, what) -> x.entry(3, 0, what), -1, 5);
        bad((x, what) -> x.entry(0, 9, what), -1, 5);
        due(busy().entry(0, 0, 0), 0);
        due(busy().entry(0, 1, 4), 2);
        test(15, "NOTHING;");
        for (int what = 0; what < 5; what++) {
            int n = what;
            finds(x -> x.entry(3, 0, n), NOTHING);
            finds(x -> x.entry(3, -1, n), NOTHING);
        }
        due(busy().entry(1, 0, 3), 2);
        test(15, "BEYOND.");
        int[] places = {-1, 2, 42, MIN, MAX};
        for (int k : places) {
            for (int what = 0; what < 5; what++) {
                int n = what;
                finds(x -> x.entry(0, k, n), BEYOND);
            }
        }
        finds(x -> x.entry(2, 0, 0), BEYOND);
        due(busy().entry(0, 0, 3), 2);
        due(busy().entry(0, 1, 0), 2);
        test(15, BEYOND_IS);
        Desk none = drawn();
        due(none.entry(0, 0, 0), BEYOND);
        none.grid(0, 1, 2);
        due(none.entry(0, 0, 0), 0);
        due(none.entry(0, 1, 0), BEYOND);
        Desk most = mostEntries();
        isEntry(most, 41, 6, 4, 0, 3, 33);
        due(most.entry(0, 42, 0), BEYOND);
    }

    private void stands() {
        test(16, "What stands in ENTRY k, as a WORD;");
        Desk x = drawn("ABCDEFZ", "B######", "C######", "D######", "E######", "F######", "Y######");
        due(x.stands(0, 0), w("ABCDEFZ"));
        due(x.stands(0, 1), w("ABCDEFY"));
        Desk y = drawn("AZ", "ZA");
        due(y.stands(0, 0), w("AZ"));
        due(y.stands(0, 1), w("AZ"));
        due(y.stands(0, 2), w("ZA"));
        due(y.stands(0, 3), w("ZA"));
        // BARS beside a letter are not of the WORD.
        y.bar(0, 0, 0, true, true);
        due(y.stands(0, 0), w("AZ"));
        test(16, "0: some SQUARE has no letter.");
        for (int i = 0; i < 7; i++) {
            Desk z = drawn("ABCDEFZ");
            z.letter(0, 0, i, 0);
            due(z.stands(0, 0), 0);
            due(z.finding(), 0);
            z.letter(0, 0, i, 26);
            due(z.stands(0, 0), w("ABCDEFZ") & ~(31L << 5 * i) | 26L << 5 * i);
        }
        due(drawn("..").stands(0, 0), 0);
    }

    private void standsRefused() {
        test(16, "(BAD: 0; FINDINGS.)");
        for (int g : NO_GRID_NUMBERS) {
            refused(x -> x.stands(g, 0), 0);
        }
        findsOfLong(x -> x.stands(3, 0), NOTHING);
        findsOfLong(x -> x.stands(3, -1), NOTHING);
        int[] places = {-1, 2, 42, MIN, MAX};
        for (int k : places) {
            findsOfLong(x -> x.stands(0, k), BEYOND);
        }
        findsOfLong(x -> x.stands(2, 0), BEYOND);
        Desk most = mostEntries();
        due(most.stands(0, 41), most.wordOf(0, 20));
        due(most.stands(0, 42), 0);
        due(most.finding(), 2);
        Desk x = busy();
        due(x.stands(0, 1), 0);
        due(x.finding(), 0);
        due(x.stands(1, 0), w("AC"));
        due(x.finding(), 0);
        test(16, NOTHING_IS);
        findsOfLong(y -> y.stands(3, 0), NOTHING);
        x.stands(2, 0);
        due(x.found(1), 0);
        test(16, BEYOND_IS);
        due(x.found(2), 1);
        due(x.stands(0, 2), 0);
        due(x.found(2), 2);
        due(x.stands(0, 0), 0);
        due(x.found(2), 2);
    }

    private void crossing() {
        test(17, "8 times the place in ENTRY a, and the place in ENTRY b, where they cross;");
        Desk x = desk();
        x.grid(0, 7, 7);
        due(x.crossing(0, 0, 1), 0);
        due(x.crossing(0, 1, 0), 0);
        due(x.crossing(0, 0, 7), 8 * 6);
        due(x.crossing(0, 7, 0), 6);
        due(x.crossing(0, 13, 7), 8 * 6 + 6);
        due(x.crossing(0, 13, 1), 6);
        due(x.crossing(0, 8, 3), 8 * 2 + 1);
        due(x.crossing(0, 3, 8), 8 + 2);
        test(17, "NONE: they do not (an ENTRY itself neither).");
        for (int k = 0; k < 14; k++) {
            due(x.crossing(0, k, k), NONE);
            due(x.finding(), 0);
        }
        due(x.crossing(0, 0, 8), NONE);
        due(x.crossing(0, 1, 2), NONE);
        apart();
    }

    /** ENTRIES that stop a SQUARE short of one another, by a BLACK one or by a BAR. */
    private void apart() {
        Desk x = drawn("...", ".#.", "...");
        due(x.crossing(0, 0, 1), 0);
        due(x.crossing(0, 0, 2), 8 * 2);
        due(x.crossing(0, 0, 3), NONE);
        due(x.crossing(0, 3, 2), 8 * 2 + 2);
        x.bar(0, 0, 1, false, true);
        due(x.crossing(0, 0, 2), NONE);
        due(x.crossing(0, 2, 0), NONE);
        due(x.crossing(0, 0, 1), 0);
        x.bar(0, 1, 0, true, true);
        due(x.crossing(0, 1, 3), NONE);
        due(x.crossing(0, 3, 1), NONE);
        due(x.crossing(0, 3, 2), 8 * 2 + 2);
    }

    private void crossingRefused() {
        test(17, "BAD;");
        bad((x, g) -> x.crossing(g, 0, 1), NO_GRID_NUMBERS);
        due(busy().crossing(0, 0, 1), NONE);
        test(17, "NOTHING;");
        finds(x -> x.crossing(3, 0, 0), NOTHING);
        finds(x -> x.crossing(3, -1, 9), NOTHING);
        due(busy().crossing(0, 0, 0), NONE);
        test(17, "BEYOND.");
        int[] places = {-1, 2, 42, MIN, MAX};
        for (int k : places) {
            finds(x -> x.crossing(0, k, 0), BEYOND);
            finds(x -> x.crossing(0, 0, k), BEYOND);
            finds(x -> x.crossing(0, k, k), BEYOND);
        }
        finds(x -> x.crossing(2, 0, 0), BEYOND);
        due(busy().crossing(0, 1, 0), NONE);
        due(busy().crossing(0, 1, 1), NONE);
        Desk most = mostEntries();
        due(most.crossing(0, 41, 35), 8 * 2 + 2);
        due(most.crossing(0, 41, 42), BEYOND);
        due(most.crossing(0, 42, 41), BEYOND);
    }
}
