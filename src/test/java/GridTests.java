/** Promises 1 to 7: a new object, grids and their squares. */
public final class GridTests {
    private static final int BAD = WordGrid.BAD, STATE = WordGrid.STATE;
    private static final int NOTHING = -11, BEYOND = -12, SIZE = -14;
    private static final int MAX = Integer.MAX_VALUE, MIN = Integer.MIN_VALUE;
    private static final Due due = new Due();

    private static void newObject() {
        due.promise(1, "a new object");
        WordGrid x = new WordGrid();
        for (int what = 0; what <= 4; what++) {
            due.is("count(" + what + ")", x.count(what), 0);
        }
        for (int g = 0; g < 4; g++) {
            due.is("digest", x.digest(g), 0);
        }
        for (int kind = 1; kind <= 5; kind++) {
            due.is("found", x.found(kind), 0);
        }
        for (int what = 0; what <= 3; what++) {
            due.is("searched", x.searched(what), 0);
        }
        due.is("trace(0)", x.trace(0), WordGrid.NONE);
        due.is("finding", x.finding(), 0);
        due.is("moved", x.moved(), 0);
        due.is("first", x.first(0, 0), 0);
        due.is("goOn", x.goOn(1), STATE);
        due.is("entries", x.entries(0), NOTHING);
        due.is("ask", x.ask(0, 1, 0), BAD);
        due.is("uses of no list", x.uses(0, false, 0), BAD);
        due.is("uses of no grid", x.uses(0, false, -1), NOTHING);
        WordGrid other = new WordGrid();
        x.grid(0, 2, 2);
        due.is("another object's grids", other.count(2), 0);
    }

    private static void grid() {
        due.promise(2, "grid");
        WordGrid x = new WordGrid();
        int[] badNumbers = {-1, 4, MAX, MIN};
        for (int g : badNumbers) {
            due.is("grid " + g, x.grid(g, 2, 2), BAD);
        }
        due.is("h above 7", x.grid(0, 8, 2), BAD);
        due.is("w above 7", x.grid(0, 2, 8), BAD);
        due.is("BAD ahead of SIZE", x.grid(0, 8, -1), BAD);
        due.is("BAD ahead of SIZE", x.grid(0, -1, 8), BAD);
        due.is("finding", x.finding(), 0);
        due.is("no grid yet", x.count(2), 0);
        due.is("h below 0", x.grid(0, -1, 2), SIZE);
        due.is("finding", x.finding(), 4);
        due.is("w below 0", x.grid(0, 2, -1), SIZE);
        due.is("w below 0 where h is 0", x.grid(0, 0, -1), SIZE);
        due.is("h and w far below 0", x.grid(0, MIN, MIN), SIZE);
        due.is("found", x.found(4), 4);
        due.is("no grid yet", x.count(2), 0);
        due.is("7 by 7", x.grid(3, 7, 7), 7);
        due.is("its last square", x.at(3, 6, 6), 0);
        due.is("0 by 0", x.grid(0, 0, 0), 0);
        due.is("0 by 5", x.grid(1, 0, 5), 0);
        due.is("W of no rows", x.judge(1, 10), 5);
        due.is("3 by 0", x.grid(2, 3, 0), 3);
        due.is("H of no squares", x.judge(2, 9), 3);
        due.is("all four", x.count(2), 4);
        anew(x);
    }

    private static void anew(WordGrid x) {
        Due.words(x, 0, "AB");
        Due.draw(x, 0, "AB#", "...");
        x.bar(0, 0, 0, false, true);
        x.bar(0, 0, 0, true, true);
        x.cut(0, 1, 1);
        x.uses(0, false, 0);
        x.uses(0, true, 0);
        long digest = x.digest(0);
        due.is("a finding leaves it", x.grid(0, 2, -3), SIZE);
        due.is("its digest", x.digest(0), digest);
        due.is("a new one in its place", x.grid(0, 2, 3), 2);
        due.is("digest of a new one", x.digest(0), 7L * 31 * 31 * 31 * 31 * 31 * 31 * 31 * 31
            + 3L * 31 * 31 * 31 * 31 * 31 * 31 * 31 + 3L * 31 * 31 * 31);
        due.is("its list across", x.uses(0, false, -1), -1);
        due.is("its list down", x.uses(0, true, -1), -1);
    }

    private static void cut() {
        due.promise(3, "cut");
        WordGrid x = new WordGrid();
        due.is("no grid", x.cut(0, 0, 0), NOTHING);
        Due.draw(x, 0, "ABC", "DEF");
        x.bar(0, 0, 0, false, true);
        x.bar(0, 0, 1, false, true);
        x.bar(0, 0, 1, true, true);
        due.is("BAD grid", x.cut(4, 0, 0), BAD);
        due.is("BAD grid", x.cut(-1, 0, 0), BAD);
        due.is("BAD n", x.cut(0, 0, -2), BAD);
        due.is("BAD n of no grid", x.cut(1, 0, MIN), BAD);
        due.is("no row", x.cut(0, 2, 0), BEYOND);
        due.is("no row", x.cut(0, -1, -1), BEYOND);
        due.is("no row", x.cut(0, MIN, 0), BEYOND);
        due.is("too many", x.cut(0, 0, 4), BEYOND);
        due.is("too many", x.cut(0, 0, MAX), BEYOND);
        due.is("as many", x.cut(0, 0, 3), 3);
        due.is("fewer", x.cut(0, 0, 2), 3);
        due.is("its first", x.at(0, 0, 0), 1 + 32);
        due.is("its last, with bars", x.at(0, 0, 1), 2 + 32 + 64);
        due.is("what was cut off", x.at(0, 0, 2), BEYOND);
        due.is("more again", x.cut(0, 0, 3), BEYOND);
        due.is("none", x.cut(0, 0, 0), 2);
        due.is("of none", x.at(0, 0, 0), BEYOND);
        due.is("lacking from none", x.cut(0, 0, -1), 0);
        due.is("of a lacking one", x.at(0, 0, 0), NOTHING);
        due.is("lacking again", x.cut(0, 0, -1), NOTHING);
        due.is("lacking to none", x.cut(0, 0, 0), NOTHING);
        due.is("lacking, and too many", x.cut(0, 0, 9), NOTHING);
        due.is("the other row", x.cut(0, 1, -1), 3);
        due.is("H stays", x.judge(0, 9), 2);
        due.is("W stays", x.judge(0, 10), 3);
    }

    private static void letter() {
        due.promise(4, "letter");
        WordGrid x = new WordGrid();
        due.is("no grid", x.letter(0, 0, 0, 1), NOTHING);
        x.grid(0, 2, 3);
        x.bar(0, 0, 1, false, true);
        due.is("1", x.letter(0, 0, 1, 1), 0);
        due.is("26", x.letter(0, 0, 1, 26), 1);
        due.is("bars stay", x.at(0, 0, 1), 26 + 32);
        due.is("0", x.letter(0, 0, 1, 0), 26);
        due.is("none again", x.at(0, 0, 1), 32);
        due.is("27", x.letter(0, 0, 1, 27), BAD);
        due.is("-1", x.letter(0, 0, 1, -1), BAD);
        due.is("BAD grid", x.letter(4, 0, 1, 1), BAD);
        due.is("BAD v ahead of findings", x.letter(1, 9, 9, 27), BAD);
        x.black(0, 1, 1, true);
        due.is("black", x.letter(0, 1, 1, 1), STATE);
        due.is("finding of STATE", x.finding(), 0);
        due.is("black, to none", x.letter(0, 1, 1, 0), STATE);
        due.is("it stays black", x.at(0, 1, 1), 27);
        squares(x, 1);
    }

    /** Findings of squares of a grid 0 of 2 rows and 3 places, and none at 3. */
    private static void squares(WordGrid x, int which) {
        due.is("no grid", square(x, which, 3, 0, 0), NOTHING);
        due.is("row -1", square(x, which, 0, -1, 0), BEYOND);
        due.is("row 2", square(x, which, 0, 2, 0), BEYOND);
        due.is("row MAX", square(x, which, 0, MAX, 0), BEYOND);
        due.is("place -1", square(x, which, 0, 0, -1), BEYOND);
        due.is("place 3", square(x, which, 0, 0, 3), BEYOND);
        due.is("place MAX", square(x, which, 0, 0, MAX), BEYOND);
        due.is("place MIN", square(x, which, 0, 0, MIN), BEYOND);
        due.is("finding", x.finding(), 2);
        x.cut(0, 1, 1);
        due.is("place that was cut off", square(x, which, 0, 1, 1), BEYOND);
        x.cut(0, 1, -1);
        due.is("a lacking row", square(x, which, 0, 1, 0), NOTHING);
        due.is("a lacking row, a place beyond", square(x, which, 0, 1, 9), NOTHING);
        due.is("finding", x.finding(), 1);
        due.is("BAD grid", square(x, which, -1, 0, 0), BAD);
        due.is("BAD grid", square(x, which, 4, 0, 0), BAD);
        due.is("finding", x.finding(), 0);
    }

    private static int square(WordGrid x, int which, int g, int r, int c) {
        switch (which) {
            case 1: return x.letter(g, r, c, 1);
            case 2: return x.black(g, r, c, true);
            case 3: return x.bar(g, r, c, false, true);
            case 4: return x.bar(g, r, c, true, true);
            default: return x.at(g, r, c);
        }
    }

    private static void black() {
        due.promise(5, "black");
        WordGrid x = new WordGrid();
        Due.draw(x, 0, "AB.", "...");
        x.bar(0, 0, 0, true, true);
        due.is("on a letter", x.black(0, 0, 0, true), 1);
        due.is("black with its bar", x.at(0, 0, 0), 27 + 64);
        due.is("on again", x.black(0, 0, 0, true), 27);
        due.is("off", x.black(0, 0, 0, false), 27);
        due.is("no sign then", x.at(0, 0, 0), 64);
        due.is("off again", x.black(0, 0, 0, false), 0);
        due.is("off a letter", x.black(0, 0, 1, false), 2);
        due.is("the letter stays", x.at(0, 0, 1), 2);
        due.is("on no sign", x.black(0, 0, 2, true), 0);
        squares(x, 2);
    }

    private static void bar() {
        due.promise(6, "bar");
        WordGrid x = new WordGrid();
        Due.draw(x, 0, "A..", "...");
        due.is("right on", x.bar(0, 0, 0, false, true), 0);
        due.is("at", x.at(0, 0, 0), 1 + 32);
        due.is("right on again", x.bar(0, 0, 0, false, true), 1);
        due.is("below on", x.bar(0, 0, 0, true, true), 0);
        due.is("at", x.at(0, 0, 0), 1 + 32 + 64);
        due.is("right off", x.bar(0, 0, 0, false, false), 1);
        due.is("at", x.at(0, 0, 0), 1 + 64);
        due.is("right off again", x.bar(0, 0, 0, false, false), 0);
        due.is("below off", x.bar(0, 0, 0, true, false), 1);
        due.is("at", x.at(0, 0, 0), 1);
        due.is("right at W - 1", x.bar(0, 0, 2, false, true), STATE);
        due.is("right at W - 1, off", x.bar(0, 0, 2, false, false), STATE);
        due.is("below in H - 1", x.bar(0, 1, 0, true, true), STATE);
        due.is("below in H - 1, off", x.bar(0, 1, 0, true, false), STATE);
        due.is("finding", x.finding(), 0);
        due.is("below at W - 1", x.bar(0, 0, 2, true, true), 0);
        due.is("right in H - 1", x.bar(0, 1, 0, false, true), 0);
        x.cut(0, 0, 2);
        due.is("right of the last one of a cut row", x.bar(0, 0, 1, false, true), 0);
        due.is("finding ahead of STATE", x.bar(0, 0, 2, false, true), BEYOND);
        squares(x, 3);
        Due.draw(x, 0, "...", "...");
        squares(x, 4);
    }

    private static void at() {
        due.promise(7, "at");
        WordGrid x = new WordGrid();
        Due.draw(x, 0, "Z#.", "...");
        x.bar(0, 0, 0, false, true);
        x.bar(0, 0, 1, true, true);
        due.is("a letter and a bar", x.at(0, 0, 0), 26 + 32);
        due.is("black and a bar", x.at(0, 0, 1), 27 + 64);
        due.is("none", x.at(0, 0, 2), 0);
        squares(x, 5);
    }

    public static void main(String[] args) {
        newObject();
        grid();
        cut();
        letter();
        black();
        bar();
        at();
        due.end("GridTests");
    }
}
