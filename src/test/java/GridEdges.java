/** The boundaries of promises 1 to 7: a new object, GRIDS, ROWS, SQUARES and BARS. */
final class GridEdges extends Edges {
    interface SquareCall {
        long on(Desk x, int g, int r, int c);
    }

    GridEdges(Sentences said) {
        super(said);
    }

    @Override
    void all() {
        newObject();
        grid();
        gridFindings();
        cut();
        cutRefused();
        cutFindings();
        letter();
        black();
        bar();
        barState();
        at();
    }

    private void newObject() {
        test(1, "3 are there or not (not, at first).");
        for (int g = 0; g < 4; g++) {
            Desk x = desk();
            due(x.entries(g), NOTHING);
            due(x.digest(g), 0);
            due(x.grid(g, 0, 0), 0);
            due(x.entries(g), 0);
            due(x.digest(g), 7);
            due(x.entries(3 - g), NOTHING);
        }
        test(1, "No GRIDS,");
        Desk x = desk();
        due(x.count(2), 0);
        x.grid(3, 0, 0);
        due(x.count(2), 1);
        test(1, "no LISTS,");
        due(x.count(0), 0);
        due(x.count(1), 0);
        due(x.ask(0, KIND, 0), BAD);
        due(x.list(PLAIN, 0, 0, 0), 0);
        due(x.ask(0, KIND, 0), 0);
        due(x.ask(1, KIND, 0), BAD);
        test(1, "THE TRACE is empty.");
        due(x.trace(0), NONE);
        due(x.count(4), 0);
        x.ask(0, MANY, 0);
        due(x.trace(0), 1);
        due(x.trace(1), NONE);
        due(x.count(4), 1);
    }

    private void grid() {
        test(2, "A new GRID with H ROWS of W SQUARES,");
        int[] sides = {0, 1, 7};
        for (int h : sides) {
            for (int w : sides) {
                Desk x = desk();
                due(x.grid(3, h, w), h);
                due(x.judge(3, 9), h);
                due(x.judge(3, 10), w);
                due(x.judge(3, 0), h * w);
                due(x.at(3, h - 1, w - 1), h == 0 || w == 0 ? BEYOND : 0);
                due(x.at(3, h, 0), BEYOND);
                due(x.at(3, 0, w), BEYOND);
            }
        }
        test(2, "A GRID has H ROWS, made with W SQUARES each; a ROW may have been cut to fewer SQUARES, or be LACKING.");
        Desk x = desk();
        x.grid(0, 3, 2);
        x.cut(0, 0, 1);
        x.cut(0, 1, 0);
        x.cut(0, 2, -1);
        due(x.judge(0, 9), 3);
        due(x.judge(0, 10), 2);
        due(x.judge(0, 0), 1);
        due(x.digest(0), ((7 * 31 + 1) * 31 * 31 + 0) * 31 - 1);
        gridAnew();
        test(2, "BAD: GRID;");
        bad((y, g) -> y.grid(g, 1, 1), NO_GRID_NUMBERS);
        due(desk().grid(0, 1, 1), 1);
        due(desk().grid(3, 1, 1), 1);
        test(2, "h or w above 7.");
        bad((y, n) -> y.grid(0, n, 2), 8, MAX);
        bad((y, n) -> y.grid(0, 3, n), 8, MAX);
        bad((y, n) -> y.grid(3, n, n), 8, MAX);
        due(desk().grid(0, 7, 2), 7);
        due(desk().grid(0, 3, 7), 3);
    }

    private void gridAnew() {
        test(2, "no SIGNS, no BARS,");
        Desk x = desk();
        x.draw(0, "AB", "#Z", "CC");
        x.bar(0, 0, 0, false, true);
        x.bar(0, 0, 0, true, true);
        x.bar(0, 1, 1, true, true);
        due(x.at(0, 0, 0), 1 + 32 + 64);
        x.cut(0, 1, -1);
        x.cut(0, 2, 1);
        due(x.grid(0, 3, 2), 3);
        squares(x, 0, 2, 0, 0, 0, 0, 0, 0);
        test(2, "its ENTRIES take WORDS of none: H.");
        Desk y = busy();
        due(y.grid(0, 3, 2), 3);
        due(y.fill(0, 1), NOTHING);
        due(y.uses(0, false, -1), -1);
        due(y.uses(0, true, -1), -1);
        due(y.uses(1, false, -1), 1);
    }

    private void gridFindings() {
        test(2, "SIZE (also w below 0 where h is 0).");
        int[][] sizes = {{-1, 0}, {0, -1}, {1, -1}, {-1, 1}, {-1, -1}, {7, -1}, {-1, 7}, {MIN, 7}, {0, MIN}, {MIN, MIN}};
        for (int[] size : sizes) {
            finds(x -> x.grid(0, size[0], size[1]), SIZE);
            finds(x -> x.grid(3, size[0], size[1]), SIZE);
        }
        due(busy().grid(0, 0, 0), 0);
        due(busy().grid(0, 0, 1), 0);
        due(busy().grid(0, 1, 0), 1);
        test(2, "4 SIZE: below 0;");
        finds(x -> x.grid(0, -1, 2), SIZE);
        refused(x -> x.grid(0, -1, 8), BAD);
        refused(x -> x.grid(0, 8, -1), BAD);
        refused(x -> x.grid(4, -1, -1), BAD);
    }

    private void cut() {
        test(3, "A ROW is cut to its first n SQUARES, which stay with their BARS");
        Desk x = desk();
        x.draw(0, "ABC", "DEF");
        x.bar(0, 0, 0, false, true);
        x.bar(0, 0, 1, false, true);
        x.bar(0, 0, 1, true, true);
        x.bar(0, 0, 2, true, true);
        long whole = x.digest(0);
        due(x.cut(0, 0, 3), 3);
        due(x.digest(0), whole);
        due(x.cut(0, 0, 2), 3);
        due(x.at(0, 0, 0), 1 + 32);
        due(x.at(0, 0, 1), 2 + 32 + 64);
        due(x.at(0, 0, 2), BEYOND);
        due(x.at(0, 1, 2), 6);
        due(x.cut(0, 0, 0), 2);
        due(x.at(0, 0, 0), BEYOND);
        due(x.cut(0, 1, 1), 3);
        due(x.at(0, 1, 0), 4);
        due(x.at(0, 1, 1), BEYOND);
        test(3, "(-1: it is LACKING): how many it had.");
        due(x.cut(0, 0, 0), 0);
        due(x.at(0, 0, 0), BEYOND);
        due(x.digest(0), ((7L * 31 + 0) * 31 + 1) * 31 + 4);
        due(x.cut(0, 0, -1), 0);
        due(x.at(0, 0, 0), NOTHING);
        due(x.digest(0), ((7L * 31 - 1) * 31 + 1) * 31 + 4);
        due(x.cut(0, 1, -1), 1);
        due(x.judge(0, 9), 2);
    }

    private void cutRefused() {
        test(3, "BAD: GRID; n below -1.");
        bad((x, g) -> x.cut(g, 0, 0), NO_GRID_NUMBERS);
        bad((x, n) -> x.cut(1, 0, n), -2, MIN);
        refused(x -> x.cut(3, 0, -2), BAD);
        refused(x -> x.cut(1, 9, -2), BAD);
        refused(x -> x.cut(1, 2, -2), BAD);
        due(busy().cut(1, 0, -1), 3);
        due(busy().cut(0, 0, 0), 2);
        Desk x = desk();
        x.grid(3, 1, 1);
        due(x.cut(3, 0, 0), 1);
    }

    private void cutFindings() {
        test(3, "NOTHING (no GRID);");
        finds(x -> x.cut(3, 0, 0), NOTHING);
        finds(x -> x.cut(3, 0, -1), NOTHING);
        finds(x -> x.cut(3, -1, MAX), NOTHING);
        due(busy().cut(2, 0, 0), 1);
        test(3, "BEYOND (no ROW);");
        int[] rows = {-1, 3, MIN, MAX};
        for (int r : rows) {
            finds(x -> x.cut(1, r, 0), BEYOND);
            finds(x -> x.cut(1, r, -1), BEYOND);
        }
        Desk none = desk();
        none.grid(0, 0, 7);
        due(none.cut(0, 0, 0), BEYOND);
        due(busy().cut(0, 0, 1), 2);
        due(busy().cut(0, 2, 1), 2);
        test(3, "NOTHING (it is LACKING, also for -1);");
        int[] lacking = {-1, 0, 3, 4, MAX};
        for (int n : lacking) {
            finds(x -> x.cut(1, 2, n), NOTHING);
        }
        Desk empty = busy();
        due(empty.cut(1, 1, 0), 2);
        due(empty.cut(1, 1, -1), 0);
        due(empty.cut(1, 1, -1), NOTHING);
        test(3, "BEYOND: it has not so many.");
        finds(x -> x.cut(1, 0, 4), BEYOND);
        finds(x -> x.cut(1, 1, 3), BEYOND);
        finds(x -> x.cut(1, 1, MAX), BEYOND);
        due(busy().cut(1, 0, 3), 3);
        due(busy().cut(1, 1, 2), 2);
        Desk x = busy();
        x.cut(1, 1, 0);
        due(x.cut(1, 1, 1), BEYOND);
        due(x.cut(1, 1, 0), 0);
    }

    /** The FINDINGS of a SQUARE; GRID 1 of busy() has ROWS of 3 and 2 SQUARES, and one that is LACKING. */
    private void squareFindings(int promise, SquareCall call) {
        test(promise, NOTHING_IS);
        finds(x -> call.on(x, 3, 0, 0), NOTHING);
        finds(x -> call.on(x, 3, -1, -1), NOTHING);
        finds(x -> call.on(x, 1, 2, 0), NOTHING);
        finds(x -> call.on(x, 1, 2, -1), NOTHING);
        finds(x -> call.on(x, 1, 2, MAX), NOTHING);
        noFinding(call, 2, 0, 0);
        noFinding(call, 1, 1, 0);
        test(promise, BEYOND_IS);
        int[] rows = {-1, 3, MIN, MAX};
        for (int r : rows) {
            finds(x -> call.on(x, 1, r, 0), BEYOND);
        }
        int[] places = {-1, 3, MIN, MAX};
        for (int c : places) {
            finds(x -> call.on(x, 1, 0, c), BEYOND);
        }
        finds(x -> call.on(x, 1, 1, 2), BEYOND);
        finds(x -> call.on(x, 1, 3, 9), BEYOND);
        noFinding(call, 1, 0, 0);
        noFinding(call, 1, 0, 2);
        noFinding(call, 1, 1, 1);
        noFinding(call, 0, 2, 0);
        noSquares(call);
    }

    private void noFinding(SquareCall call, int g, int r, int c) {
        Desk x = busy();
        call.on(x, g, r, c);
        due(x.finding(), 0);
        due(x.found(1) + x.found(2), 0);
    }

    /** A ROW of no SQUARES is not LACKING, and a GRID of no ROWS is there. */
    private void noSquares(SquareCall call) {
        Desk x = desk();
        x.grid(0, 2, 0);
        due(call.on(x, 0, 0, 0), BEYOND);
        x.grid(0, 2, 2);
        x.cut(0, 1, 0);
        due(call.on(x, 0, 1, 0), BEYOND);
        x.grid(0, 0, 2);
        due(call.on(x, 0, 0, 0), BEYOND);
    }

    private void letter() {
        test(4, "The SIGN of a SQUARE becomes v (0 .. 26): what it was.");
        Desk x = busy();
        due(x.letter(1, 0, 0, 26), 1);
        due(x.at(1, 0, 0), 26 + 32);
        due(x.letter(1, 0, 0, 0), 26);
        due(x.at(1, 0, 0), 32);
        due(x.letter(1, 0, 0, 1), 0);
        due(x.letter(1, 0, 0, 1), 1);
        due(x.at(1, 0, 1), 2 + 64);
        test(4, "BAD: GRID, v;");
        bad((y, g) -> y.letter(g, 0, 0, 1), NO_GRID_NUMBERS);
        bad((y, v) -> y.letter(1, 0, 0, v), -1, 27, MIN, MAX);
        bad((y, v) -> y.letter(1, 1, 1, v), -1, 27);
        test(4, "FINDINGS;");
        refused(y -> y.letter(3, 0, 0, 27), BAD);
        refused(y -> y.letter(1, 9, 9, 27), BAD);
        finds(y -> y.letter(3, 0, 0, 26), NOTHING);
        finds(y -> y.letter(1, 9, 9, 0), BEYOND);
        squareFindings(4, (y, g, r, c) -> y.letter(g, r, c, 1));
        test(4, "then STATE: it is BLACK.");
        refused(y -> y.letter(1, 1, 1, 1), STATE);
        refused(y -> y.letter(1, 1, 1, 0), STATE);
        Desk z = busy();
        due(z.letter(1, 1, 0, 4), 3);
        z.black(1, 1, 1, false);
        due(z.letter(1, 1, 1, 1), 0);
        due(z.at(1, 1, 1), 1);
    }

    private void black() {
        test(5, "A SQUARE is BLACK; or (off) has SIGN 0, if it was BLACK: what SIGN it had.");
        Desk x = busy();
        due(x.black(1, 0, 0, true), 1);
        due(x.at(1, 0, 0), 27 + 32);
        due(x.black(1, 0, 0, true), 27);
        due(x.at(1, 0, 0), 27 + 32);
        due(x.black(1, 0, 0, false), 27);
        due(x.at(1, 0, 0), 32);
        due(x.black(1, 0, 0, false), 0);
        due(x.black(1, 0, 0, true), 0);
        x.letter(1, 1, 0, 26);
        due(x.black(1, 1, 0, false), 26);
        due(x.at(1, 1, 0), 26);
        test(5, "A SQUARE has a SIGN: 0 none, 1 .. 26 a letter, 27 BLACK; and may have a BAR to its right, and one below it.");
        due(x.black(1, 0, 1, true), 2);
        due(x.at(1, 0, 1), 27 + 64);
        x.bar(1, 0, 1, false, true);
        due(x.black(1, 0, 1, false), 27);
        due(x.at(1, 0, 1), 32 + 64);
        test(5, "BAD; FINDINGS.");
        bad((y, g) -> y.black(g, 0, 0, true), NO_GRID_NUMBERS);
        bad((y, g) -> y.black(g, 0, 0, false), NO_GRID_NUMBERS);
        due(busy().black(0, 0, 0, true), 0);
        finds(y -> y.black(3, 0, 0, false), NOTHING);
        finds(y -> y.black(1, 2, 0, false), NOTHING);
        finds(y -> y.black(1, 1, 2, false), BEYOND);
        squareFindings(5, (y, g, r, c) -> y.black(g, r, c, true));
    }

    private void bar() {
        test(6, "A BAR to the right of (below) a SQUARE is there, or not: whether it was (1, 0).");
        boolean[] sides = {false, true};
        for (boolean below : sides) {
            Desk x = desk();
            x.draw(0, "AB", "CD");
            int more = below ? 64 : 32;
            due(x.bar(0, 0, 0, below, false), 0);
            due(x.at(0, 0, 0), 1);
            due(x.bar(0, 0, 0, below, true), 0);
            due(x.at(0, 0, 0), 1 + more);
            due(x.bar(0, 0, 0, below, true), 1);
            due(x.at(0, 0, 0), 1 + more);
            due(x.bar(0, 0, 0, !below, true), 0);
            due(x.bar(0, 0, 0, below, false), 1);
            due(x.at(0, 0, 0), 1 + 32 + 64 - more);
            due(x.bar(0, 0, 0, below, false), 0);
            due(x.at(0, 0, 1), 2);
            due(x.at(0, 1, 0), 3);
        }
        test(6, "BAD; FINDINGS (of the SQUARE);");
        bad((y, g) -> y.bar(g, 0, 0, false, true), NO_GRID_NUMBERS);
        bad((y, g) -> y.bar(g, 0, 0, true, false), NO_GRID_NUMBERS);
        due(busy().bar(0, 0, 0, false, true), 0);
        squareFindings(6, (y, g, r, c) -> y.bar(g, r, c, false, true));
        squareFindings(6, (y, g, r, c) -> y.bar(g, r, c, true, false));
    }

    private void barState() {
        test(6, "then STATE: it is at place W - 1 (in ROW H - 1).");
        refused(x -> x.bar(0, 0, 1, false, true), STATE);
        refused(x -> x.bar(0, 2, 1, false, false), STATE);
        refused(x -> x.bar(0, 2, 0, true, true), STATE);
        refused(x -> x.bar(0, 2, 1, true, false), STATE);
        refused(x -> x.bar(2, 0, 0, false, true), STATE);
        refused(x -> x.bar(2, 0, 0, true, true), STATE);
        Desk x = busy();
        due(x.bar(0, 0, 0, false, true), 0);
        due(x.bar(0, 1, 1, true, true), 0);
        due(x.bar(0, 2, 0, false, true), 0);
        due(x.at(0, 2, 0), 32);
        due(x.at(0, 1, 1), 27 + 64);
        // W is that of the GRID: the last SQUARE of a ROW that was cut is not at place W - 1.
        due(x.bar(1, 1, 1, false, true), 0);
        due(x.at(1, 1, 1), 27 + 32);
        due(x.bar(1, 1, 0, true, true), 0);
        // A SQUARE that there is not is a FINDING ahead of STATE.
        finds(y -> y.bar(1, 1, 2, false, true), BEYOND);
        finds(y -> y.bar(1, 2, 0, true, true), NOTHING);
        finds(y -> y.bar(0, 3, 1, false, true), BEYOND);
        finds(y -> y.bar(0, 2, 2, true, true), BEYOND);
    }

    private void at() {
        test(7, "The SIGN of a SQUARE, and 32 more with a BAR to its right, 64 more with one below.");
        Desk x = desk();
        x.draw(0, "Z#.", "A..");
        squares(x, 0, 3, 26, 27, 0, 1, 0, 0);
        x.bar(0, 0, 0, false, true);
        x.bar(0, 0, 1, true, true);
        x.bar(0, 1, 1, false, true);
        x.bar(0, 0, 2, true, true);
        squares(x, 0, 3, 26 + 32, 27 + 64, 64, 1, 32, 0);
        x.bar(0, 0, 0, true, true);
        due(x.at(0, 0, 0), 26 + 32 + 64);
        test(7, "BAD; FINDINGS.");
        bad((y, g) -> y.at(g, 0, 0), NO_GRID_NUMBERS);
        due(busy().at(0, 0, 0), 0);
        due(busy().at(2, 0, 0), 26);
        squareFindings(7, (y, g, r, c) -> y.at(g, r, c));
    }
}
