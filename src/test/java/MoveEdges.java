/** The boundaries of promises 24 and 25: blocks of SQUARES that are moved, and how many ROWS came. */
final class MoveEdges extends Edges {
    MoveEdges(Sentences said) {
        super(said);
    }

    @Override
    void all() {
        blocks();
        overlapping();
        rims();
        rimsInOrder();
        stops();
        order();
        places();
        noPlaces();
        noRows();
        came();
        moveRefused();
        moved();
    }

    private void blocks() {
        test(24, "h times w SQUARES (0 .. 7) from ROW r, place c of a GRID come to ROW s, place d of another one "
            + "(or the same), with their SIGNS and BARS,");
        Desk x = desk();
        x.draw(0, "ABC", "D#.");
        x.bar(0, 0, 0, false, true);
        x.bar(0, 0, 1, true, true);
        x.draw(1, "ZZZZ", "ZZZZ", "ZZZZ");
        due(x.move(0, 0, 0, 1, 1, 1, 2, 2), 2);
        squares(x, 1, 4, 26, 26, 26, 26, 26, 1 + 32, 2 + 64, 26, 26, 4, 27, 26);
        squares(x, 0, 3, 1 + 32, 2 + 64, 3, 4, 27, 0);
        due(x.move(0, 1, 1, 1, 0, 2, 1, 2), 1);
        squares(x, 1, 4, 26, 26, 27, 0);
        due(x.move(1, 2, 3, 1, 0, 0, 1, 1), 1);
        squares(x, 1, 4, 26, 26, 27, 0);
        // BARS that were there go where the SQUARES that come have none.
        due(x.move(0, 0, 2, 0, 0, 0, 1, 1), 1);
        squares(x, 0, 3, 3, 2 + 64, 3);
        int[] sides = {0, 1, 7};
        for (int h : sides) {
            for (int w : sides) {
                Desk y = desk();
                y.grid(0, 7, 7);
                y.grid(3, 7, 7);
                y.letter(0, 0, 0, 1);
                y.letter(0, 6, 6, 26);
                due(y.move(0, 0, 0, 3, 0, 0, h, w), h);
                due(y.at(3, 0, 0), h > 0 && w > 0 ? 1 : 0);
                due(y.at(3, 6, 6), h == 7 && w == 7 ? 26 : 0);
                due(y.moved(), h);
            }
        }
    }

    private void overlapping() {
        test(24, "ROW by ROW from the upper one (of one ROW all at once), as the machine copies");
        Desk x = desk();
        x.draw(0, "ABCD", "EFGH");
        due(x.move(0, 0, 0, 0, 0, 1, 1, 3), 1);
        squares(x, 0, 4, 1, 1, 2, 3);
        due(x.move(0, 1, 1, 0, 1, 0, 1, 3), 1);
        squares(x, 0, 4, 1, 1, 2, 3, 6, 7, 8, 8);
        due(x.move(0, 1, 0, 0, 1, 0, 1, 4), 1);
        squares(x, 0, 4, 1, 1, 2, 3, 6, 7, 8, 8);
        // Downwards what came is moved on; upwards it is not.
        x.draw(0, "AB", "CD", "EF", "GH");
        due(x.move(0, 0, 0, 0, 1, 0, 3, 2), 3);
        squares(x, 0, 2, 1, 2, 1, 2, 1, 2, 1, 2);
        x.draw(0, "AB", "CD", "EF", "GH");
        due(x.move(0, 1, 0, 0, 0, 0, 3, 2), 3);
        squares(x, 0, 2, 3, 4, 5, 6, 7, 8, 7, 8);
        x.draw(0, "AB", "CD", "EF", "GH");
        due(x.move(0, 0, 0, 0, 2, 0, 2, 2), 2);
        squares(x, 0, 2, 1, 2, 3, 4, 1, 2, 3, 4);
        x.draw(0, "ABC", "DEF", "GHI");
        due(x.move(0, 0, 0, 0, 1, 1, 2, 2), 2);
        squares(x, 0, 3, 1, 2, 3, 4, 1, 2, 7, 4, 1);
    }

    private void rims() {
        test(24, "(behind each ROW no BAR is at place W - 1 to the right of that ROW, or below it, if it is ROW H - 1): h;");
        Desk x = desk();
        x.grid(0, 3, 3);
        for (int c = 0; c < 3; c++) {
            x.bar(0, 0, c, false, true);
            x.bar(0, 0, c, true, true);
            x.bar(0, 1, c, false, true);
            x.bar(0, 1, c, true, true);
        }
        x.grid(1, 2, 2);
        due(x.move(0, 0, 0, 1, 0, 0, 2, 2), 2);
        squares(x, 1, 2, 32 + 64, 64, 32, 0);
        x.grid(1, 2, 3);
        due(x.move(0, 0, 0, 1, 0, 1, 2, 2), 2);
        squares(x, 1, 3, 0, 32 + 64, 64, 0, 32, 0);
        x.grid(1, 3, 3);
        due(x.move(0, 0, 0, 1, 0, 0, 2, 2), 2);
        squares(x, 1, 3, 32 + 64, 32 + 64, 0, 32 + 64, 32 + 64, 0);
        // W is that of the GRID: a ROW that was cut has no place W - 1.
        x.grid(1, 2, 3);
        x.cut(1, 0, 2);
        x.cut(1, 1, 2);
        due(x.move(0, 0, 0, 1, 0, 0, 2, 2), 2);
        squares(x, 1, 2, 32 + 64, 32 + 64, 32, 32);
        // To the right of the last SQUARE of a ROW that was cut there may be one, which comes as well.
        x.grid(2, 1, 4);
        due(x.move(1, 0, 1, 2, 0, 2, 1, 1), 1);
        due(x.at(2, 0, 2), 32);
        due(x.move(1, 0, 1, 2, 0, 3, 1, 1), 1);
        due(x.at(2, 0, 3), 0);
        // It leaves those of the ROWS that nothing comes to.
        x.grid(3, 2, 2);
        x.bar(3, 0, 0, false, true);
        x.bar(3, 0, 0, true, true);
        due(x.move(0, 0, 0, 3, 1, 0, 1, 2), 1);
        squares(x, 3, 2, 32 + 64, 0, 32, 0);
    }

    /** What goes at the rim goes behind its own ROW, ahead of the next one that is moved. */
    private void rimsInOrder() {
        test(24, "(behind each ROW no BAR is at place W - 1 to the right of that ROW,");
        Desk x = desk();
        x.draw(0, "AB", "CD", "EF");
        x.bar(0, 0, 0, false, true);
        // A comes below B, at place W - 1, without its BAR; and so it goes on.
        due(x.move(0, 0, 0, 0, 1, 1, 1, 1), 1);
        due(x.at(0, 1, 1), 1);
        x.grid(1, 3, 3);
        x.bar(1, 0, 1, false, true);
        x.bar(1, 1, 1, false, true);
        due(x.move(1, 0, 1, 1, 1, 2, 2, 1), 2);
        squares(x, 1, 3, 0, 32, 0, 0, 32, 0, 0, 0, 0);
        x.grid(2, 3, 3);
        x.bar(2, 0, 0, true, true);
        due(x.move(2, 0, 0, 2, 1, 0, 2, 3), 2);
        squares(x, 2, 3, 64, 0, 0, 64, 0, 0, 0, 0, 0);
    }

    /** A move() that FINDS something behind so many ROWS leaves all as one of those ROWS alone does. */
    private void stopsBehind(int rows, int finding, int... block) {
        findsLike(this::busy, x -> moveOf(x, block, rows), x -> moveOf(x, block, block[6]), finding);
        Desk x = busy();
        due(moveOf(x, block, block[6]), finding);
        due(x.moved(), rows);
    }

    private static int moveOf(Desk x, int[] block, int h) {
        return x.move(block[0], block[1], block[2], block[3], block[4], block[5], h, block[7]);
    }

    private void stops() {
        test(24, "where it FINDS something it stops (of each ROW: NOTHING: no GRID g;");
        stopsBehind(0, NOTHING, 3, 0, 0, 0, 0, 0, 1, 1);
        stopsBehind(0, NOTHING, 3, -1, 9, 0, 9, 9, 7, 7);
        stopsBehind(0, NOTHING, 3, 0, 0, 3, 0, 0, 1, 0);
        test(24, "BEYOND: no such ROW of it;");
        int[] rows = {-1, 3, MIN, MAX};
        for (int r : rows) {
            stopsBehind(0, BEYOND, 0, r, 0, 1, 0, 0, 1, 1);
            stopsBehind(0, BEYOND, 0, r, 0, 1, 0, 0, 7, 0);
        }
        stopsBehind(1, BEYOND, 0, 2, 0, 0, 0, 0, 2, 1);
        stopsBehind(3, BEYOND, 0, 0, 0, 0, 0, 0, 4, 2);
        due(busy().move(0, 2, 0, 0, 0, 0, 1, 1), 1);
        test(24, "NOTHING, BEYOND of the other one likewise;");
        stopsBehind(0, NOTHING, 0, 0, 0, 3, 0, 0, 1, 1);
        stopsBehind(0, NOTHING, 0, 0, 0, 3, 9, 9, 1, 0);
        for (int s : rows) {
            stopsBehind(0, BEYOND, 0, 0, 0, 0, s, 0, 1, 1);
            stopsBehind(0, BEYOND, 0, 0, 0, 1, s, 0, 7, 0);
        }
        stopsBehind(1, BEYOND, 0, 0, 0, 0, 2, 0, 2, 1);
        stopsBehind(1, BEYOND, 0, 0, 0, 2, 0, 0, 2, 1);
        due(busy().move(0, 0, 0, 0, 2, 0, 1, 1), 1);
        test(24, "NOTHING: one of both is LACKING;");
        stopsBehind(0, NOTHING, 1, 2, 0, 0, 0, 0, 1, 1);
        stopsBehind(0, NOTHING, 0, 0, 0, 1, 2, 0, 1, 1);
        stopsBehind(0, NOTHING, 1, 2, 0, 1, 2, 0, 1, 1);
        stopsBehind(0, NOTHING, 1, 2, 0, 0, 0, 0, 1, 0);
        stopsBehind(0, NOTHING, 0, 0, 0, 1, 2, 0, 1, 0);
        stopsBehind(2, NOTHING, 1, 0, 0, 0, 0, 0, 3, 2);
        stopsBehind(2, NOTHING, 0, 0, 0, 1, 0, 0, 3, 2);
        stopsBehind(1, NOTHING, 0, 0, 0, 1, 1, 0, 3, 1);
        due(busy().move(1, 1, 0, 0, 0, 0, 1, 1), 1);
    }

    private void order() {
        test(24, "of each ROW: NOTHING: no GRID g; BEYOND: no such ROW of it; NOTHING, BEYOND of the other one likewise; "
            + "NOTHING: one of both is LACKING; BEYOND: places that one of them has not,");
        stopsBehind(0, NOTHING, 3, 0, 0, 0, 9, 0, 1, 1);
        stopsBehind(0, BEYOND, 0, 3, 0, 3, 0, 0, 1, 1);
        stopsBehind(0, BEYOND, 0, 3, 0, 1, 2, 0, 1, 1);
        stopsBehind(0, NOTHING, 0, 0, 9, 3, 0, 0, 1, 1);
        stopsBehind(0, NOTHING, 1, 2, 0, 3, 0, 0, 1, 1);
        stopsBehind(0, BEYOND, 1, 2, 0, 0, 3, 0, 1, 1);
        stopsBehind(0, NOTHING, 1, 2, 9, 0, 0, 9, 1, 1);
        stopsBehind(0, NOTHING, 0, 0, 9, 1, 2, 0, 1, 1);
        stopsBehind(0, NOTHING, 1, 2, 0, 0, 0, 9, 1, 1);
        stopsBehind(0, NOTHING, 0, 0, 0, 1, 2, 9, 1, 7);
        // ROW by ROW: a later ROW that is LACKING does not matter where an earlier one is too short.
        stopsBehind(0, BEYOND, 1, 0, 0, 0, 0, 0, 3, 3);
        stopsBehind(1, BEYOND, 1, 0, 2, 0, 0, 0, 3, 1);
        stopsBehind(1, BEYOND, 0, 0, 0, 1, 0, 1, 3, 2);
    }

    private void places() {
        test(24, "BEYOND: places that one of them has not,");
        int[] beyond = {-1, 3, MIN, MAX};
        for (int n : beyond) {
            stopsBehind(0, BEYOND, 1, 0, n, 0, 0, 0, 1, 1);
            stopsBehind(0, BEYOND, 2, 0, 0, 1, 0, n, 1, 1);
            stopsBehind(0, BEYOND, 1, 0, n, 1, 0, 0, 7, 3);
            stopsBehind(0, BEYOND, 1, 0, 0, 1, 0, n, 7, 3);
        }
        due(busy().move(1, 0, 2, 2, 0, 0, 1, 1), 1);
        due(busy().move(2, 0, 0, 1, 0, 2, 1, 1), 1);
        stopsBehind(0, BEYOND, 1, 0, 1, 1, 0, 0, 1, 3);
        stopsBehind(0, BEYOND, 1, 0, 0, 1, 0, 1, 1, 3);
        stopsBehind(0, BEYOND, 1, 0, 0, 1, 0, 0, 1, 4);
        stopsBehind(0, BEYOND, 1, 0, 0, 1, 0, 0, 1, 7);
        due(busy().move(1, 0, 0, 1, 0, 0, 1, 3), 1);
        due(busy().move(1, 0, 1, 1, 0, 0, 1, 2), 1);
        // A ROW that was cut has the places that were left to it.
        stopsBehind(0, BEYOND, 1, 1, 0, 1, 0, 0, 1, 3);
        stopsBehind(0, BEYOND, 1, 0, 0, 1, 1, 0, 1, 3);
        stopsBehind(0, BEYOND, 1, 1, 2, 1, 0, 0, 1, 1);
        stopsBehind(0, BEYOND, 1, 0, 0, 1, 1, 2, 1, 1);
        due(busy().move(1, 1, 0, 1, 0, 0, 1, 2), 1);
        due(busy().move(1, 0, 0, 1, 1, 0, 1, 2), 1);
        due(busy().move(1, 1, 1, 1, 0, 0, 1, 1), 1);
    }

    private void noPlaces() {
        test(24, "with w 0 one behind its last place alone is none;");
        stopsBehind(0, BEYOND, 1, 0, 4, 1, 0, 0, 1, 0);
        stopsBehind(0, BEYOND, 1, 0, 0, 1, 0, 4, 1, 0);
        stopsBehind(0, BEYOND, 1, 0, -1, 1, 0, 0, 1, 0);
        stopsBehind(0, BEYOND, 1, 0, 0, 1, 0, -1, 1, 0);
        stopsBehind(0, BEYOND, 1, 1, 3, 1, 0, 0, 1, 0);
        stopsBehind(0, BEYOND, 1, 0, 0, 1, 1, 3, 1, 0);
        stopsBehind(0, BEYOND, 1, 0, MAX, 1, 0, 0, 1, 0);
        stopsBehind(0, BEYOND, 1, 0, 0, 1, 0, MIN, 1, 0);
        Desk x = busy();
        long digest = x.digest(1);
        due(x.move(1, 0, 3, 1, 0, 3, 1, 0), 1);
        due(x.move(1, 0, 2, 1, 0, 2, 1, 0), 1);
        due(x.move(1, 1, 2, 1, 0, 0, 1, 0), 1);
        due(x.move(1, 0, 0, 1, 1, 2, 1, 0), 1);
        due(x.moved(), 1);
        due(x.digest(1), digest);
        // With more than none it is BEYOND.
        stopsBehind(0, BEYOND, 1, 0, 3, 1, 0, 0, 1, 1);
        Desk y = desk();
        y.grid(0, 2, 0);
        due(y.move(0, 0, 0, 0, 1, 0, 2, 0), BEYOND);
        due(y.moved(), 1);
        due(y.move(0, 0, 0, 0, 0, 0, 2, 0), 2);
        due(y.move(0, 0, 1, 0, 0, 0, 2, 0), BEYOND);
        due(y.move(0, 0, 0, 0, 0, 0, 2, 1), BEYOND);
        y.grid(1, 7, 7);
        due(y.move(1, 6, 7, 1, 6, 7, 1, 0), 1);
        due(y.move(1, 6, 8, 1, 6, 7, 1, 0), BEYOND);
    }

    private void noRows() {
        test(24, "with h 0 nothing is looked at):");
        int[][] blocks = {{3, 0, 0, 3, 0, 0, 0, 0}, {0, -1, 0, 0, 0, 0, 0, 1}, {0, 0, 0, 0, 9, 0, 0, 7},
            {0, 0, MIN, 0, 0, MAX, 0, 7}, {1, 2, 0, 1, 2, 0, 0, 1}, {3, MAX, MAX, 3, MIN, MIN, 0, 7}};
        for (int[] block : blocks) {
            Desk x = busy();
            long digest = x.digest(0) + x.digest(1) + x.digest(2);
            due(moveOf(x, block, 0), 0);
            due(x.finding(), 0);
            due(x.found(1) + x.found(2), 0);
            due(x.moved(), 0);
            due(x.digest(0) + x.digest(1) + x.digest(2), digest);
            due(moveOf(busy(), block, 1) <= NOTHING ? 1 : 0, 1);
        }
    }

    private void came() {
        test(24, "what came ahead of that has come, moved() tells how many ROWS.");
        Desk x = desk();
        x.draw(0, "AB", "CD", "EF");
        x.grid(1, 3, 2);
        x.cut(1, 2, -1);
        due(x.move(0, 0, 0, 1, 0, 0, 3, 2), NOTHING);
        due(x.finding(), 1);
        due(x.found(1), 1);
        due(x.moved(), 2);
        squares(x, 1, 2, 1, 2, 3, 4);
        x.grid(1, 3, 2);
        x.cut(1, 1, 1);
        due(x.move(0, 0, 0, 1, 0, 0, 3, 2), BEYOND);
        due(x.moved(), 1);
        due(x.at(1, 0, 1), 2);
        // Nothing of the ROW that it stops at has come, and nothing of those behind it.
        due(x.at(1, 1, 0), 0);
        due(x.at(1, 2, 0), 0);
        x.grid(1, 2, 2);
        due(x.move(0, 0, 0, 1, 1, 0, 2, 2), BEYOND);
        squares(x, 1, 2, 0, 0, 1, 2);
        due(x.moved(), 1);
        due(x.move(0, 0, 0, 1, 0, 0, 2, 2), 2);
        due(x.moved(), 2);
    }

    private void moveRefused() {
        test(24, "BAD.");
        bad((x, g) -> x.move(g, 0, 0, 0, 0, 0, 1, 1), NO_GRID_NUMBERS);
        bad((x, to) -> x.move(0, 0, 0, to, 0, 0, 1, 1), NO_GRID_NUMBERS);
        bad((x, g) -> x.move(g, 0, 0, 3, 0, 0, 0, 0), NO_GRID_NUMBERS);
        bad((x, to) -> x.move(3, 0, 0, to, 0, 0, 0, 0), NO_GRID_NUMBERS);
        bad((x, h) -> x.move(0, 0, 0, 0, 0, 0, h, 1), -1, 8, MIN, MAX);
        bad((x, w) -> x.move(0, 0, 0, 0, 0, 0, 1, w), -1, 8, MIN, MAX);
        bad((x, w) -> x.move(0, 0, 0, 0, 0, 0, 0, w), -1, 8, MIN, MAX);
        bad((x, h) -> x.move(3, 0, 0, 3, 0, 0, h, h), -1, 8);
        due(busy().move(0, 0, 0, 0, 0, 0, 3, 2), 3);
        due(busy().move(2, 0, 0, 2, 0, 0, 1, 1), 1);
        due(busy().move(0, 0, 0, 0, 0, 0, 7, 2), BEYOND);
    }

    private void moved() {
        test(25, "How many ROWS the latest move() brought that was not BAD;");
        Desk x = busy();
        due(x.moved(), 1);
        due(x.move(0, 0, 0, 0, 0, 0, 3, 2), 3);
        due(x.moved(), 3);
        due(x.moved(), 3);
        due(x.move(0, 0, 0, 0, 0, 0, 8, 2), BAD);
        due(x.move(4, 0, 0, 0, 0, 0, 1, 2), BAD);
        due(x.moved(), 3);
        due(x.move(0, 1, 0, 0, 0, 0, 3, 2), BEYOND);
        due(x.moved(), 2);
        due(x.move(0, 0, 0, 0, 0, 0, 0, 2), 0);
        due(x.moved(), 0);
        due(x.move(0, 0, 0, 0, 0, 0, 2, 0), 2);
        due(x.moved(), 2);
        due(x.move(3, 0, 0, 0, 0, 0, 2, 0), NOTHING);
        due(x.moved(), 0);
        Desk y = desk();
        y.grid(0, 7, 7);
        due(y.move(0, 0, 0, 0, 0, 0, 7, 7), 7);
        y.grid(0, 7, 7);
        y.turn(0);
        due(y.moved(), 7);
        test(25, "0 before.");
        Desk z = desk();
        due(z.moved(), 0);
        z.move(0, 0, 0, 0, 0, 0, 8, 0);
        due(z.moved(), 0);
        z.move(0, 0, 0, 0, 0, 0, 1, 0);
        due(z.moved(), 0);
        z.grid(0, 1, 1);
        z.move(0, 0, 0, 0, 0, 0, 1, 0);
        due(z.moved(), 1);
    }
}
