/** Promises 14 to 17: entries, what stands in them, where they cross. */
public final class EntryTests {
    private static final int BAD = WordGrid.BAD, NONE = WordGrid.NONE;
    private static final int NOTHING = -11, BEYOND = -12;
    private static final Due due = new Due();

    private static void entries() {
        due.promise(14, "entries");
        WordGrid x = new WordGrid();
        due.is("BAD", x.entries(-1), BAD);
        due.is("BAD", x.entries(4), BAD);
        due.is("no grid", x.entries(0), NOTHING);
        due.is("finding", x.finding(), 1);
        x.grid(0, 0, 0);
        due.is("no rows", x.entries(0), 0);
        x.grid(0, 3, 0);
        due.is("no squares", x.entries(0), 0);
        x.grid(0, 1, 1);
        due.is("one square is no entry", x.entries(0), 0);
        x.grid(0, 1, 2);
        due.is("two are one", x.entries(0), 1);
        x.bar(0, 0, 0, false, true);
        due.is("a bar between", x.entries(0), 0);
        Due.draw(x, 0, "..#..");
        due.is("a black between", x.entries(0), 2);
        x.grid(0, 7, 7);
        due.is("7 by 7", x.entries(0), 14);
        x.cut(0, 3, -1);
        due.is("a lacking row", x.entries(0), 6 + 14);
        x.cut(0, 2, 4);
        due.is("a row cut short", x.entries(0), 6 + 14);
        x.cut(0, 2, 1);
        due.is("a row cut to one", x.entries(0), 5 + 14);
        x.cut(0, 1, 0);
        due.is("a row cut to none", x.entries(0), 4 + 7);
        mostEntries(x);
    }

    private static void mostEntries(WordGrid x) {
        x.grid(1, 7, 7);
        for (int i = 0; i < 7; i++) {
            for (int j = 1; j < 5; j += 2) {
                x.bar(1, i, j, false, true);
                x.bar(1, j, i, true, true);
            }
        }
        due.is("as many as can be", x.entries(1), 42);
        due.is("the last one begins", x.entry(1, 41, 0), 6);
        due.is("the last one's place", x.entry(1, 41, 1), 4);
        due.is("the last one's length", x.entry(1, 41, 3), 3);
        due.is("none behind it", x.entry(1, 42, 3), BEYOND);
    }

    private static void isEntry(WordGrid x, int g, int k, int... want) {
        for (int what = 0; what < 5; what++) {
            due.is("entry " + k + ", what " + what, x.entry(g, k, what), want[what]);
        }
    }

    private static void entry() {
        due.promise(15, "entry");
        WordGrid x = new WordGrid();
        due.is("no grid", x.entry(0, 0, 0), NOTHING);
        due.is("BAD what ahead of NOTHING", x.entry(0, 0, 5), BAD);
        Due.draw(x, 0, "...#", "....", "#...");
        due.is("BAD grid", x.entry(-1, 0, 0), BAD);
        due.is("BAD grid", x.entry(4, 0, 0), BAD);
        due.is("BAD what", x.entry(0, 0, -1), BAD);
        due.is("BAD what", x.entry(0, 99, 5), BAD);
        due.is("no entry", x.entry(0, -1, 0), BEYOND);
        due.is("no entry", x.entry(0, 7, 0), BEYOND);
        due.is("no entry", x.entry(0, Integer.MAX_VALUE, 0), BEYOND);
        due.is("finding", x.finding(), 2);
        isEntry(x, 0, 0, 0, 0, 0, 3, 1);
        isEntry(x, 0, 1, 0, 0, 1, 2, 1);
        isEntry(x, 0, 2, 0, 1, 1, 3, 2);
        isEntry(x, 0, 3, 0, 2, 1, 3, 3);
        isEntry(x, 0, 4, 1, 0, 0, 4, 4);
        isEntry(x, 0, 5, 1, 3, 1, 2, 5);
        isEntry(x, 0, 6, 2, 1, 0, 3, 6);
        due.is("all", x.entries(0), 7);
        barred(x);
    }

    private static void barred(WordGrid x) {
        x.bar(0, 1, 1, false, true);
        x.bar(0, 0, 1, true, true);
        due.is("with bars", x.entries(0), 8);
        isEntry(x, 0, 2, 0, 2, 1, 3, 2);
        isEntry(x, 0, 3, 1, 0, 0, 2, 3);
        isEntry(x, 0, 4, 1, 1, 1, 2, 4);
        isEntry(x, 0, 5, 1, 2, 0, 2, 5);
        isEntry(x, 0, 6, 1, 3, 1, 2, 6);
        x.cut(0, 1, 2);
        due.is("cut", x.entries(0), 5);
        isEntry(x, 0, 3, 1, 1, 1, 2, 3);
        isEntry(x, 0, 4, 2, 1, 0, 3, 4);
    }

    private static void stands() {
        due.promise(16, "stands");
        WordGrid x = new WordGrid();
        due.is("no grid", x.stands(0, 0), 0);
        due.is("finding", x.finding(), 1);
        due.is("BAD", x.stands(4, 0), 0);
        due.is("finding of BAD", x.finding(), 0);
        Due.draw(x, 0, "ABCDEFZ", "B.#####", "C######");
        x.bar(0, 0, 0, true, true);
        due.is("across", x.stands(0, 0), Due.w("ABCDEFZ"));
        due.is("down, one has none", x.stands(0, 1), 0);
        due.is("finding", x.finding(), 0);
        due.is("across, one has none", x.stands(0, 2), 0);
        due.is("down", x.stands(0, 3), Due.w("BC"));
        due.is("no entry", x.stands(0, 4), 0);
        due.is("finding", x.finding(), 2);
        due.is("no entry", x.stands(0, -1), 0);
        due.is("finding", x.finding(), 2);
        x.letter(0, 1, 0, 0);
        due.is("its first has none", x.stands(0, 3), 0);
    }

    private static void crossing() {
        due.promise(17, "crossing");
        WordGrid x = new WordGrid();
        due.is("no grid", x.crossing(0, 0, 0), NOTHING);
        due.is("BAD", x.crossing(4, 0, 0), BAD);
        due.is("BAD", x.crossing(-1, 0, 0), BAD);
        Due.draw(x, 0, "...#", "....", "#...");
        due.is("at the beginning", x.crossing(0, 0, 1), 0);
        due.is("across and down", x.crossing(0, 4, 3), 8 * 2 + 1);
        due.is("down and across", x.crossing(0, 3, 4), 8 + 2);
        due.is("the last squares", x.crossing(0, 6, 5), 8 * 2 + 1);
        due.is("they do not", x.crossing(0, 0, 5), NONE);
        due.is("they do not", x.crossing(0, 6, 1), NONE);
        due.is("both across", x.crossing(0, 0, 4), NONE);
        due.is("both down", x.crossing(0, 1, 2), NONE);
        due.is("itself", x.crossing(0, 2, 2), NONE);
        due.is("finding of NONE", x.finding(), 0);
        due.is("no entry a", x.crossing(0, 7, 0), BEYOND);
        due.is("no entry b", x.crossing(0, 0, 7), BEYOND);
        due.is("no entry a", x.crossing(0, -1, 0), BEYOND);
        due.is("no entry, twice itself", x.crossing(0, 9, 9), BEYOND);
        due.is("finding", x.finding(), 2);
        due.is("one finding each", x.found(2), 4);
        x.grid(0, 3, 3);
        x.bar(0, 0, 1, false, true);
        x.bar(0, 1, 0, true, true);
        due.is("the length of the one across", x.entry(0, 0, 3), 2);
        due.is("a bar ahead of the one down", x.crossing(0, 0, 3), NONE);
        due.is("the one down, and the one across", x.crossing(0, 3, 0), NONE);
        due.is("the last row begins", x.entry(0, 5, 0), 2);
        due.is("a bar ahead of the one across", x.crossing(0, 1, 5), NONE);
        due.is("the one across, and the one down", x.crossing(0, 5, 1), NONE);
    }

    public static void main(String[] args) {
        entries();
        entry();
        stands();
        crossing();
        due.end("EntryTests");
    }
}
