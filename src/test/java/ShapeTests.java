/** Promises 23 to 27: judging, moving, turning, mirroring. */
public final class ShapeTests {
    private static final int BAD = WordGrid.BAD, STATE = WordGrid.STATE;
    private static final int NOTHING = -11, BEYOND = -12, ZERO = -15;
    private static final int MAX = Integer.MAX_VALUE, MIN = Integer.MIN_VALUE;
    private static final Due due = new Due();

    private static void judges(WordGrid x, int g, int... want) {
        for (int what = 0; what < want.length; what++) {
            due.is("judge " + what, x.judge(g, what), want[what]);
        }
    }

    /** Every square of a grid as at() tells it, ROW by ROW. */
    private static void squares(String name, WordGrid x, int g, int w, int... want) {
        for (int i = 0; i < want.length; i++) {
            due.is(name + ": at(" + g + ", " + i / w + ", " + i % w + ")", x.at(g, i / w, i % w), want[i]);
        }
    }

    private static void judge() {
        due.promise(23, "judge");
        WordGrid x = new WordGrid();
        due.is("BAD grid", x.judge(-1, 0), BAD);
        due.is("BAD grid", x.judge(4, 0), BAD);
        due.is("BAD what", x.judge(0, -1), BAD);
        due.is("BAD what", x.judge(0, 11), BAD);
        for (int what = 0; what <= 10; what++) {
            due.is("no grid", x.judge(0, what), NOTHING);
        }
        due.is("found", x.found(1), 11);
        Due.draw(x, 0, "AB#.", "..#.", "####", "..#Z");
        judges(x, 0, 16, 9, 4, 1, 4, 2, 0, 3, 1, 4, 4);
        Due.draw(x, 0, "..#", "...", "#..");
        judges(x, 0, 9, 7, 0, 0, 1, 2, 1, 0, 1, 3, 3);
        x.black(0, 0, 2, false);
        judges(x, 0, 9, 8, 0, 0, 1, 2, 0, 0, 1, 3, 3);
        x.cut(0, 0, 1);
        judges(x, 0, 7, 6, 1, 0, 1, 2, 0, 0, 1, 3, 3);
        x.cut(0, 1, -1);
        judges(x, 0, 4, 3, 2, 1, 2, 2, 0, 0, 3, 3, 3);
        x.cut(0, 2, 1);
        judges(x, 0, 2, 1, 0, 1, 1, 0, 0, 0, ZERO, 3, 3);
        due.is("WHITE / ENTRIES of none", x.judge(0, 8), ZERO);
        due.is("finding", x.finding(), 5);
        due.is("found", x.found(5), 2);
        empty(x);
        barred(x);
    }

    private static void empty(WordGrid x) {
        x.grid(1, 0, 5);
        judges(x, 1, 0, 0, 0, 0, 0, 0, 1, 0, ZERO, 0, 5);
        x.grid(1, 4, 0);
        judges(x, 1, 0, 0, 0, 0, 0, 0, 1, 0, ZERO, 4, 0);
        x.grid(1, 7, 7);
        judges(x, 1, 49, 49, 0, 0, 1, 7, 1, 0, 3, 7, 7);
    }

    private static void barred(WordGrid x) {
        x.grid(2, 2, 3);
        x.bar(2, 0, 1, false, true);
        x.bar(2, 0, 2, true, true);
        judges(x, 2, 6, 6, 1, 1, 1, 2, 1, 0, 1, 2, 3);
        snake(x);
        x.grid(3, 2, 3);
        x.cut(3, 0, 2);
        due.is("half turned, by W as it was made", x.judge(3, 6), 0);
        x.black(3, 1, 0, true);
        due.is("a place that there is not, and a black one", x.judge(3, 6), 1);
    }

    private static void snake(WordGrid x) {
        Due.draw(x, 3, ".......", "######.", ".......", ".######", ".......", "######.", ".......");
        due.is("one long island", x.judge(3, 4), 1);
        x.black(3, 3, 0, true);
        due.is("two", x.judge(3, 4), 2);
        Due.draw(x, 3, "#.", "..");
        due.is("to the left", x.judge(3, 4), 1);
        Due.draw(x, 3, ".#.", "...");
        due.is("upwards", x.judge(3, 4), 1);
        Due.draw(x, 3, ".#.#.#.", "#.#.#.#", ".#.#.#.", "#.#.#.#", ".#.#.#.", "#.#.#.#", ".#.#.#.");
        due.is("side by side, not aslant", x.judge(3, 4), 25);
        due.is("in none", x.judge(3, 3), 25);
    }

    private static void move() {
        due.promise(24, "move");
        WordGrid x = new WordGrid();
        Due.draw(x, 0, "ABC", "D#F", "GHI");
        x.bar(0, 0, 0, false, true);
        x.bar(0, 0, 1, true, true);
        x.bar(0, 1, 1, true, true);
        x.bar(0, 2, 0, false, true);
        Due.draw(x, 1, "ZZZ", "ZZZ");
        due.is("a block", x.move(0, 0, 0, 1, 0, 1, 2, 2), 2);
        due.is("moved", x.moved(), 2);
        squares("with bars, none at the rim", x, 1, 3, 26, 1 + 32, 2 + 64, 26, 4, 27);
        due.is("to the lower left", x.move(0, 2, 0, 1, 0, 0, 1, 2), 1);
        squares("a bar stays within", x, 1, 3, 7 + 32, 8, 2 + 64, 26, 4, 27);
        due.is("the last place", x.move(0, 0, 0, 1, 1, 2, 1, 1), 1);
        due.is("no bar at place W - 1", x.at(1, 1, 2), 1);
        squares("what it came from", x, 0, 3, 1 + 32, 2 + 64, 3, 4, 27 + 64, 6, 7 + 32, 8, 9);
        overlapping();
        moveRefused();
        moveStops();
        moveNone();
    }

    private static void overlapping() {
        WordGrid x = new WordGrid();
        Due.draw(x, 0, "ABCD", "EFGH", "IJKL");
        due.is("within a row, to the right", x.move(0, 0, 0, 0, 0, 1, 1, 3), 1);
        squares("all at once", x, 0, 4, 1, 1, 2, 3);
        due.is("within a row, to the left", x.move(0, 1, 1, 0, 1, 0, 1, 3), 1);
        squares("all at once", x, 0, 4, 1, 1, 2, 3, 6, 7, 8, 8);
        due.is("down by one", x.move(0, 0, 0, 0, 1, 0, 2, 2), 2);
        squares("row by row from the upper one", x, 0, 4, 1, 1, 2, 3, 1, 1, 8, 8, 1, 1, 11, 12);
        Due.draw(x, 0, "AB", "CD", "EF");
        due.is("up by one", x.move(0, 1, 0, 0, 0, 0, 2, 2), 2);
        squares("row by row from the upper one", x, 0, 2, 3, 4, 5, 6, 5, 6);
    }

    private static void moveRefused() {
        WordGrid x = new WordGrid();
        x.grid(0, 3, 3);
        x.grid(1, 3, 3);
        x.move(0, 0, 0, 1, 0, 0, 2, 2);
        due.is("BAD g", x.move(4, 0, 0, 1, 0, 0, 1, 1), BAD);
        due.is("BAD g", x.move(-1, 0, 0, 1, 0, 0, 1, 1), BAD);
        due.is("BAD to", x.move(0, 0, 0, 4, 0, 0, 1, 1), BAD);
        due.is("BAD to", x.move(0, 0, 0, -1, 0, 0, 0, 1), BAD);
        due.is("BAD h", x.move(0, 0, 0, 1, 0, 0, -1, 1), BAD);
        due.is("BAD h", x.move(0, 0, 0, 1, 0, 0, 8, 1), BAD);
        due.is("BAD w", x.move(0, 0, 0, 1, 0, 0, 1, -1), BAD);
        due.is("BAD w", x.move(0, 0, 0, 1, 0, 0, 0, 8), BAD);
        due.is("moved stays", x.moved(), 2);
        due.is("no grid g", x.move(2, 0, 0, 1, 0, 0, 1, 1), NOTHING);
        due.is("moved", x.moved(), 0);
        due.is("no grid to", x.move(0, 0, 0, 2, 0, 0, 1, 1), NOTHING);
        due.is("no row of g ahead of no grid to", x.move(0, 3, 0, 2, 0, 0, 1, 1), BEYOND);
        due.is("no grid g ahead of no row", x.move(2, 0, 0, 1, 9, 0, 1, 1), NOTHING);
        int[] beyond = {-1, 3, MAX, MIN};
        for (int n : beyond) {
            due.is("row " + n, x.move(0, n, 0, 1, 0, 0, 2, 1), BEYOND);
            due.is("place " + n, x.move(0, 0, n, 1, 0, 0, 2, 1), BEYOND);
            due.is("to row " + n, x.move(0, 0, 0, 1, n, 0, 2, 1), BEYOND);
            due.is("to place " + n, x.move(0, 0, 0, 1, 0, n, 2, 1), BEYOND);
        }
        due.is("finding", x.finding(), 2);
        due.is("too wide", x.move(0, 0, 0, 1, 0, 0, 1, 4), BEYOND);
        due.is("too wide from 1", x.move(0, 0, 1, 1, 0, 0, 1, 3), BEYOND);
        due.is("too wide to 1", x.move(0, 0, 0, 1, 0, 1, 1, 3), BEYOND);
        lacking(x);
    }

    private static void lacking(WordGrid x) {
        x.cut(0, 0, -1);
        due.is("lacking ahead of places", x.move(0, 0, 9, 1, 0, 9, 1, 1), NOTHING);
        due.is("to a lacking one", x.move(0, 1, 0, 0, 0, 0, 1, 1), NOTHING);
        due.is("no row ahead of lacking", x.move(0, 0, 0, 1, 3, 0, 1, 1), BEYOND);
        due.is("lacking with w 0", x.move(0, 0, 0, 1, 0, 0, 1, 0), NOTHING);
        x.cut(0, 1, 1);
        due.is("cut short", x.move(0, 1, 0, 1, 0, 0, 1, 2), BEYOND);
        due.is("to one cut short", x.move(1, 0, 0, 0, 1, 0, 1, 2), BEYOND);
        due.is("as much as there is", x.move(1, 0, 0, 0, 1, 0, 1, 1), 1);
    }

    private static void moveStops() {
        WordGrid x = new WordGrid();
        Due.draw(x, 0, "AA", "BB", "CC");
        x.grid(1, 3, 2);
        x.cut(1, 1, -1);
        due.is("till a row is lacking", x.move(0, 0, 0, 1, 0, 0, 3, 2), NOTHING);
        due.is("finding", x.finding(), 1);
        due.is("moved", x.moved(), 1);
        due.is("its finding", x.finding(), 0);
        due.is("one finding", x.found(1), 1);
        due.is("what came", x.at(1, 0, 1), 1);
        due.is("what did not", x.at(1, 2, 0), 0);
        x.grid(1, 2, 2);
        due.is("till there is no row", x.move(0, 0, 0, 1, 0, 0, 3, 2), BEYOND);
        due.is("moved", x.moved(), 2);
        squares("what came", x, 1, 2, 1, 1, 2, 2);
        x.grid(1, 3, 2);
        x.cut(0, 1, 1);
        due.is("till a row is short", x.move(0, 0, 1, 1, 0, 0, 3, 1), BEYOND);
        due.is("moved", x.moved(), 1);
        rim(x);
    }

    /** Bars go from the rim of the grid that is moved to, whatever its rows have. */
    private static void rim(WordGrid x) {
        x.grid(0, 3, 3);
        for (int c = 0; c < 3; c++) {
            x.bar(0, 0, c, true, true);
            x.bar(0, 0, c, false, true);
        }
        x.grid(1, 2, 3);
        due.is("to the rim", x.move(0, 0, 0, 1, 1, 0, 1, 3), 1);
        squares("none below H - 1", x, 1, 3, 0, 0, 0, 32, 32, 0);
        x.grid(1, 2, 3);
        x.cut(1, 0, 2);
        due.is("to a row cut short", x.move(0, 0, 0, 1, 0, 0, 1, 2), 1);
        due.is("W is as it was made", x.at(1, 0, 1), 32 + 64);
        x.grid(2, 1, 2);
        due.is("a smaller one", x.move(0, 0, 0, 2, 0, 0, 1, 2), 1);
        squares("its rim", x, 2, 2, 32, 0);
    }

    private static void moveNone() {
        WordGrid x = new WordGrid();
        due.is("h 0: nothing is looked at", x.move(0, -5, 99, 1, 77, MIN, 0, 7), 0);
        due.is("finding", x.finding(), 0);
        Due.draw(x, 0, "AB", "CD");
        long digest = x.digest(0);
        due.is("w 0", x.move(0, 0, 0, 0, 1, 1, 1, 0), 1);
        due.is("w 0, one behind its last place", x.move(0, 0, 2, 0, 0, 2, 2, 0), 2);
        due.is("moved", x.moved(), 2);
        due.is("w 0, two behind", x.move(0, 0, 3, 0, 0, 2, 1, 0), BEYOND);
        due.is("w 0, to two behind", x.move(0, 0, 2, 0, 0, 3, 1, 0), BEYOND);
        due.is("w 0, place -1", x.move(0, 0, -1, 0, 0, 0, 1, 0), BEYOND);
        due.is("w 0, to place -1", x.move(0, 0, 0, 0, 0, -1, 1, 0), BEYOND);
        due.is("as it was", x.digest(0), digest);
        x.cut(0, 0, 0);
        due.is("w 0, of a row of none", x.move(0, 0, 0, 0, 1, 0, 1, 0), 1);
        due.is("w 0, to a row of none", x.move(0, 1, 0, 0, 0, 0, 1, 0), 1);
        due.is("w 1, of a row of none", x.move(0, 0, 0, 0, 1, 0, 1, 1), BEYOND);
        due.is("w 1, to a row of none", x.move(0, 1, 0, 0, 0, 0, 1, 1), BEYOND);
        x.grid(3, 7, 7);
        due.is("w 0 behind the last square of all", x.move(3, 6, 7, 3, 6, 7, 1, 0), 1);
        due.is("7 by 7", x.move(3, 0, 0, 3, 0, 0, 7, 7), 7);
    }

    private static void moved() {
        due.promise(25, "moved");
        WordGrid x = new WordGrid();
        due.is("before", x.moved(), 0);
        x.grid(0, 3, 3);
        x.grid(1, 2, 3);
        x.move(0, 0, 0, 0, 0, 0, 3, 1);
        due.is("three", x.moved(), 3);
        x.move(0, 0, 0, 0, 0, 0, 9, 1);
        due.is("BAD does not matter", x.moved(), 3);
        x.move(0, 0, 0, 1, 0, 0, 3, 1);
        due.is("till a finding", x.moved(), 2);
        x.move(0, 0, 0, 3, 0, 0, 3, 1);
        due.is("none", x.moved(), 0);
        x.move(0, 0, 0, 1, 0, 0, 1, 1);
        x.move(0, 0, 0, 1, 0, 0, 0, 1);
        due.is("h 0", x.moved(), 0);
    }

    private static void turn() {
        due.promise(26, "turn");
        WordGrid x = new WordGrid();
        due.is("BAD", x.turn(-1), BAD);
        due.is("BAD", x.turn(4), BAD);
        due.is("no grid", x.turn(0), NOTHING);
        drawBarred(x);
        due.is("a quarter", x.turn(0), 3);
        due.is("H", x.judge(0, 9), 3);
        due.is("W", x.judge(0, 10), 2);
        squares("turned", x, 0, 2, 4, 1 + 64, 27 + 32 + 64, 2, 6, 3);
        due.is("two quarters", x.turn(0), 2);
        squares("turned twice", x, 0, 3, 6 + 32, 27 + 64, 4, 3, 2 + 32, 1);
    }

    private static void drawBarred(WordGrid x) {
        Due.draw(x, 0, "ABC", "D#F");
        x.bar(0, 0, 0, false, true);
        x.bar(0, 0, 1, true, true);
        x.bar(0, 1, 1, false, true);
    }

    private static void turnMore() {
        due.promise(26, "turn, more");
        WordGrid x = new WordGrid();
        Due.words(x, 0, "AB");
        drawBarred(x);
        x.uses(0, true, 0);
        long digest = x.digest(0);
        for (int i = 0; i < 4; i++) {
            due.is("four quarters", x.turn(0), i % 2 == 0 ? 3 : 2);
        }
        due.is("as it was", x.digest(0), digest);
        due.is("lists stay: across", x.uses(0, false, -1), -1);
        due.is("lists stay: down", x.uses(0, true, -1), 0);
        x.cut(0, 0, 2);
        long cut = x.digest(0);
        due.is("a row is cut", x.turn(0), STATE);
        due.is("finding", x.finding(), 0);
        due.is("nothing changed", x.digest(0), cut);
        x.cut(0, 1, -1);
        due.is("a row is lacking behind one that is cut", x.turn(0), NOTHING);
        due.is("finding", x.finding(), 1);
        x.grid(1, 0, 5);
        due.is("no rows", x.turn(1), 5);
        due.is("W 0", x.judge(1, 10), 0);
        due.is("no squares", x.turn(1), 0);
        due.is("W 5", x.judge(1, 10), 5);
        turnedRim(x);
    }

    private static void turnedRim(WordGrid x) {
        x.grid(2, 7, 7);
        for (int i = 0; i < 7; i++) {
            for (int j = 0; j < 6; j++) {
                x.bar(2, i, j, false, true);
            }
        }
        due.is("7 by 7", x.turn(2), 7);
        due.is("bars are below", x.at(2, 5, 6), 64);
        due.is("none below the last row", x.at(2, 6, 0), 0);
        due.is("again", x.turn(2), 7);
        due.is("bars are to the right", x.at(2, 6, 5), 32);
        due.is("none behind the last place", x.at(2, 0, 6), 0);
    }

    private static void mirror() {
        due.promise(27, "mirror");
        WordGrid x = new WordGrid();
        due.is("BAD", x.mirror(-1), BAD);
        due.is("BAD", x.mirror(4), BAD);
        due.is("no grid", x.mirror(0), NOTHING);
        Due.draw(x, 0, "ABC", "D#F");
        x.bar(0, 0, 0, false, true);
        x.bar(0, 0, 2, true, true);
        x.bar(0, 1, 1, false, true);
        long digest = x.digest(0);
        due.is("mirror", x.mirror(0), 3);
        squares("mirrored", x, 0, 3, 3 + 64, 2 + 32, 1, 6 + 32, 27, 4);
        due.is("again", x.mirror(0), 3);
        due.is("as it was", x.digest(0), digest);
        x.cut(0, 1, 2);
        long cut = x.digest(0);
        due.is("a row is cut", x.mirror(0), STATE);
        due.is("finding", x.finding(), 0);
        due.is("nothing changed", x.digest(0), cut);
        x.cut(0, 1, -1);
        x.cut(0, 0, 0);
        due.is("lacking ahead of cut", x.mirror(0), NOTHING);
        due.is("finding", x.finding(), 1);
        x.grid(1, 0, 5);
        due.is("no rows", x.mirror(1), 5);
        x.grid(1, 5, 0);
        due.is("no squares", x.mirror(1), 0);
    }

    public static void main(String[] args) {
        judge();
        move();
        moved();
        turn();
        turnMore();
        mirror();
        due.end("ShapeTests");
    }
}
