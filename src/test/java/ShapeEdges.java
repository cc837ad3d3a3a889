/** The boundaries of promises 23, 26 and 27: judging, turning and mirroring. */
final class ShapeEdges extends Edges {
    ShapeEdges(Sentences said) {
        super(said);
    }

    @Override
    void all() {
        counted();
        covered();
        islands();
        shortest();
        halfTurned();
        letters();
        shared();
        sides();
        judgeRefused();
        turn();
        turnedBars();
        mirror();
        turnRefused();
    }

    private Desk drawn(String... rows) {
        Desk x = desk();
        x.draw(0, rows);
        return x;
    }

    private Desk sized(int h, int w) {
        Desk x = desk();
        x.grid(0, h, w);
        return x;
    }

    private void counted() {
        test(23, "Of a GRID: what = 0 SQUARES,");
        due(sized(0, 0).judge(0, 0), 0);
        due(sized(0, 7).judge(0, 0), 0);
        due(sized(7, 0).judge(0, 0), 0);
        due(sized(1, 1).judge(0, 0), 1);
        Desk x = sized(7, 7);
        due(x.judge(0, 0), 49);
        x.black(0, 0, 0, true);
        x.cut(0, 6, 6);
        due(x.judge(0, 0), 48);
        x.cut(0, 6, 0);
        due(x.judge(0, 0), 42);
        x.cut(0, 0, -1);
        due(x.judge(0, 0), 35);
        due(x.finding(), 0);
        test(23, "1 WHITE ones,");
        due(x.judge(0, 1), 35);
        x.black(0, 1, 6, true);
        due(x.judge(0, 1), 34);
        x.letter(0, 1, 5, 26);
        due(x.judge(0, 1), 34);
        x.cut(0, 1, 6);
        due(x.judge(0, 1), 34);
        x.cut(0, 1, 5);
        due(x.judge(0, 1), 33);
        due(drawn("##", "##").judge(0, 1), 0);
        due(sized(7, 0).judge(0, 1), 0);
        test(23, WHITE_IS);
        Desk y = drawn("..", ".#");
        due(y.judge(0, 1), 3);
        y.cut(0, 0, -1);
        for (int what = 0; what <= 10; what++) {
            int[] want = {2, 1, 0, 1, 1, 0, 0, 0, ZERO, 2, 2};
            due(y.judge(0, what), want[what]);
            due(y.finding(), what == 8 ? 5 : 0);
        }
        y.cut(0, 1, -1);
        due(y.judge(0, 1), 0);
        due(y.found(1), 0);
    }

    private void covered() {
        test(23, "2 WHITE ones in one ENTRY alone,");
        due(drawn("..").judge(0, 2), 2);
        due(drawn(".", ".").judge(0, 2), 2);
        due(drawn("..", "..").judge(0, 2), 0);
        due(drawn("..", ".#").judge(0, 2), 2);
        due(drawn(".").judge(0, 2), 0);
        Desk x = drawn("...", "#.#");
        due(x.judge(0, 2), 3);
        x.bar(0, 0, 0, false, true);
        due(x.judge(0, 2), 2);
        x.bar(0, 0, 1, true, true);
        due(x.judge(0, 2), 2);
        test(23, "3 WHITE ones in none,");
        due(x.judge(0, 3), 2);
        x.bar(0, 0, 1, false, true);
        due(x.judge(0, 3), 4);
        due(x.judge(0, 2), 0);
        due(drawn(".").judge(0, 3), 1);
        due(drawn("#").judge(0, 3), 0);
        due(drawn("..").judge(0, 3), 0);
        due(drawn(".", ".").judge(0, 3), 0);
        due(drawn(".#", "#.").judge(0, 3), 2);
    }

    private void islands() {
        test(23, "4 ISLANDS (WHITE SQUARES side by side or one below the other, BARS or not, are of one),");
        due(sized(0, 0).judge(0, 4), 0);
        due(sized(3, 0).judge(0, 4), 0);
        due(drawn("##", "##").judge(0, 4), 0);
        due(drawn(".").judge(0, 4), 1);
        due(drawn("..").judge(0, 4), 1);
        due(drawn(".#.").judge(0, 4), 2);
        due(drawn(".", ".").judge(0, 4), 1);
        due(drawn(".", "#", ".").judge(0, 4), 2);
        due(drawn(".#", "#.").judge(0, 4), 2);
        due(drawn(".#", "..").judge(0, 4), 1);
        due(drawn("#.", "..").judge(0, 4), 1);
        due(drawn(".#.", "...").judge(0, 4), 1);
        due(drawn("...", ".#.").judge(0, 4), 1);
        due(drawn(".#.", ".#.", "...").judge(0, 4), 1);
        due(drawn("...", ".#.", ".#.").judge(0, 4), 1);
        due(drawn("..", "#.", "..").judge(0, 4), 1);
        due(sized(7, 7).judge(0, 4), 1);
        Desk x = drawn("..", "..");
        x.bar(0, 0, 0, false, true);
        x.bar(0, 0, 0, true, true);
        x.bar(0, 1, 0, false, true);
        x.bar(0, 0, 1, true, true);
        due(x.judge(0, 4), 1);
        due(x.judge(0, 3), 4);
        Desk y = drawn("...", "...", "...");
        y.cut(0, 1, 1);
        due(y.judge(0, 4), 1);
        y.cut(0, 1, 0);
        due(y.judge(0, 4), 2);
        y.cut(0, 1, -1);
        due(y.judge(0, 4), 2);
        y.cut(0, 0, -1);
        due(y.judge(0, 4), 1);
        snakes();
    }

    /** Rounds that go through every ROW and back, in one piece or in two. */
    private void snakes() {
        Desk x = drawn(".......", "######.", ".......", ".######", ".......", "######.", ".......");
        due(x.judge(0, 4), 1);
        x.black(0, 6, 0, true);
        due(x.judge(0, 4), 1);
        x.black(0, 4, 3, true);
        due(x.judge(0, 4), 2);
        Desk y = drawn(".#.#.#.", "#.#.#.#", ".#.#.#.", "#.#.#.#", ".#.#.#.", "#.#.#.#", ".#.#.#.");
        due(y.judge(0, 4), 25);
    }

    private void shortest() {
        test(23, "5 the length of its shortest ENTRY (0: none),");
        due(sized(0, 0).judge(0, 5), 0);
        due(drawn(".").judge(0, 5), 0);
        due(drawn(".#", "#.").judge(0, 5), 0);
        for (int length = 2; length <= 7; length++) {
            due(sized(length, length).judge(0, 5), length);
            due(sized(1, length).judge(0, 5), length);
            due(sized(length, 1).judge(0, 5), length);
        }
        Desk x = sized(7, 7);
        x.bar(0, 6, 4, false, true);
        due(x.judge(0, 5), 2);
        x.bar(0, 6, 4, false, false);
        x.bar(0, 3, 6, true, true);
        due(x.judge(0, 5), 3);
        x.bar(0, 3, 6, true, false);
        x.cut(0, 0, 5);
        due(x.judge(0, 5), 5);
        x.cut(0, 0, 1);
        due(x.judge(0, 5), 6);
    }

    private void halfTurned() {
        test(23, "6 whether, turned by half (of H ROWS, W places), WHITE comes to WHITE alone (1, 0),");
        due(sized(0, 0).judge(0, 6), 1);
        due(sized(0, 7).judge(0, 6), 1);
        due(sized(7, 0).judge(0, 6), 1);
        due(sized(7, 6).judge(0, 6), 1);
        due(drawn("#").judge(0, 6), 1);
        due(drawn("#.").judge(0, 6), 0);
        due(drawn("#.", ".#").judge(0, 6), 1);
        due(drawn("#.", "#.").judge(0, 6), 0);
        due(drawn("##", "..").judge(0, 6), 0);
        due(drawn("#..", "...", "..#").judge(0, 6), 1);
        due(drawn("#..", "...", ".#.").judge(0, 6), 0);
        due(drawn("..#", "...", "..#").judge(0, 6), 0);
        due(drawn(".#.", "...").judge(0, 6), 0);
        due(drawn(".#.", ".#.").judge(0, 6), 1);
        due(drawn("A..", "Z..").judge(0, 6), 1);
        due(drawn("..", "..", "..", "#.").judge(0, 6), 0);
        due(drawn("#.", "..", "..", "..").judge(0, 6), 0);
        due(drawn("#.", "..", "..", ".#").judge(0, 6), 1);
        due(drawn("..#.").judge(0, 6), 0);
        // A SQUARE that there is not is no WHITE one, and comes to a BLACK one as well as to none.
        Desk x = drawn("...", "...");
        x.cut(0, 0, 2);
        due(x.judge(0, 6), 0);
        x.black(0, 1, 0, true);
        due(x.judge(0, 6), 1);
        Desk y = sized(3, 3);
        y.cut(0, 0, -1);
        due(y.judge(0, 6), 0);
        y.cut(0, 2, 0);
        due(y.judge(0, 6), 1);
        y.cut(0, 1, 2);
        due(y.judge(0, 6), 0);
        y.black(0, 1, 0, true);
        due(y.judge(0, 6), 1);
        // BARS do not matter.
        Desk z = sized(2, 2);
        z.bar(0, 0, 0, false, true);
        due(z.judge(0, 6), 1);
    }

    private void letters() {
        test(23, "7 letters,");
        Desk x = sized(2, 2);
        due(x.judge(0, 7), 0);
        x.letter(0, 0, 0, 1);
        due(x.judge(0, 7), 1);
        x.letter(0, 1, 1, 26);
        due(x.judge(0, 7), 2);
        x.black(0, 0, 1, true);
        due(x.judge(0, 7), 2);
        x.bar(0, 1, 0, false, true);
        due(x.judge(0, 7), 2);
        x.letter(0, 0, 0, 0);
        due(x.judge(0, 7), 1);
        x.cut(0, 1, 1);
        due(x.judge(0, 7), 0);
        Desk y = drawn("AB", "CD");
        y.cut(0, 0, -1);
        due(y.judge(0, 7), 2);
        due(drawn("#").judge(0, 7), 0);
        due(drawn("A.", "..", "BZ").judge(0, 7), 3);
        due(drawn("A.B", "..Z").judge(0, 7), 3);
    }

    private void shared() {
        test(23, "8 WHITE SQUARES / ENTRIES, cut (ZERO),");
        due(drawn("..").judge(0, 8), 2);
        due(drawn("..", "..").judge(0, 8), 1);
        due(drawn("..#.").judge(0, 8), 3);
        due(drawn("...", "...").judge(0, 8), 1);
        due(drawn("...", "...", "...").judge(0, 8), 1);
        due(drawn("...#", "####", "..#.").judge(0, 8), 3);
        due(drawn(".......", "######.", "######.").judge(0, 8), 4);
        test(23, "5 ZERO: shared by nought.");
        findsOn(this::busyBeyond, x -> x.judge(2, 8), ZERO);
        due(drawn("##").judge(0, 8), ZERO);
        due(sized(0, 7).judge(0, 8), ZERO);
        due(sized(7, 0).judge(0, 8), ZERO);
        Desk x = drawn("..");
        due(x.judge(0, 8), 2);
        x.bar(0, 0, 0, false, true);
        due(x.judge(0, 8), ZERO);
        due(x.finding(), 5);
        due(x.found(5), 1);
    }

    private void sides() {
        test(23, "9 H, 10 W.");
        Desk x = sized(7, 3);
        due(x.judge(0, 9), 7);
        due(x.judge(0, 10), 3);
        for (int r = 0; r < 7; r++) {
            x.cut(0, r, r % 2 - 1);
        }
        due(x.judge(0, 9), 7);
        due(x.judge(0, 10), 3);
        due(sized(0, 7).judge(0, 10), 7);
        due(sized(7, 0).judge(0, 9), 7);
        // All that is judged, of the greatest GRID there is and of the least.
        int[] most = {49, 49, 0, 0, 1, 7, 1, 0, 3, 7, 7};
        int[] least = {0, 0, 0, 0, 0, 0, 1, 0, ZERO, 0, 0};
        for (int what = 0; what <= 10; what++) {
            due(sized(7, 7).judge(0, what), most[what]);
            due(sized(0, 0).judge(0, what), least[what]);
        }
    }

    private void judgeRefused() {
        test(23, "BAD; FINDINGS.");
        bad((x, what) -> x.judge(0, what), -1, 11, MIN, MAX);
        bad((x, what) -> x.judge(3, what), -1, 11);
        for (int what = 0; what <= 10; what++) {
            int n = what;
            bad((x, g) -> x.judge(g, n), NO_GRID_NUMBERS);
            finds(x -> x.judge(3, n), NOTHING);
        }
        due(busy().judge(0, 0), 6);
        due(busy().judge(0, 10), 2);
        Desk x = busy();
        x.grid(3, 7, 7);
        due(x.judge(3, 0), 49);
    }

    private void turn() {
        test(26, "A GRID is turned by a quarter: what was in ROW r, at place c, is in ROW c, at place H - 1 - r,");
        Desk x = drawn("ABC", "D#F");
        x.letter(0, 1, 2, 0);
        due(x.turn(0), 3);
        squares(x, 0, 2, 4, 1, 27, 2, 0, 3);
        due(x.judge(0, 10), 2);
        due(x.turn(0), 2);
        squares(x, 0, 3, 0, 27, 4, 3, 2, 1);
        int[][] sizes = {{0, 0}, {0, 7}, {7, 0}, {1, 7}, {7, 1}, {7, 7}, {1, 1}};
        for (int[] size : sizes) {
            Desk y = sized(size[0], size[1]);
            due(y.turn(0), size[1]);
            due(y.judge(0, 9), size[1]);
            due(y.judge(0, 10), size[0]);
            due(y.judge(0, 0), size[0] * size[1]);
            due(y.turn(0), size[0]);
            due(y.judge(0, 9), size[0]);
        }
        Desk z = sized(7, 7);
        z.letter(0, 6, 0, 26);
        z.letter(0, 0, 0, 1);
        z.turn(0);
        due(z.at(0, 0, 0), 26);
        due(z.at(0, 0, 6), 1);
        // Its ENTRIES take WORDS as before, and other GRIDS are as before.
        Desk u = busy();
        long other = u.digest(1);
        due(u.turn(0), 2);
        due(u.uses(0, false, -1), 0);
        due(u.uses(0, true, -1), 1);
        due(u.digest(1), other);
    }

    private void turnedBars() {
        test(26, "BARS are between what they were between: H then.");
        Desk x = drawn("ABC", "DEF");
        x.bar(0, 0, 0, false, true);
        x.bar(0, 0, 2, true, true);
        x.bar(0, 1, 1, false, true);
        due(x.turn(0), 3);
        // A over B, F beside C, E over F.
        squares(x, 0, 2, 4, 1 + 64, 5 + 64, 2, 6 + 32, 3);
        due(x.turn(0), 2);
        squares(x, 0, 3, 6 + 32 + 64, 5, 4, 3, 2 + 32, 1);
        x.turn(0);
        due(x.turn(0), 2);
        squares(x, 0, 3, 1 + 32, 2, 3 + 64, 4, 5 + 32, 6);
        // All that there can be: none is at the rim then.
        Desk all = barred();
        due(all.turn(0), 7);
        for (int r = 0; r < 7; r++) {
            for (int c = 0; c < 7; c++) {
                due(all.at(0, r, c), (c < 6 ? 32 : 0) + (r < 6 ? 64 : 0));
            }
        }
    }

    private Desk barred() {
        Desk x = sized(7, 7);
        for (int r = 0; r < 7; r++) {
            for (int c = 0; c < 7; c++) {
                x.bar(0, r, c, false, true);
                x.bar(0, r, c, true, true);
            }
        }
        return x;
    }

    private void mirror() {
        test(27, "A GRID is mirrored, its right side to the left,");
        Desk x = drawn("ABC", "D#F");
        due(x.mirror(0), 3);
        squares(x, 0, 3, 3, 2, 1, 6, 27, 4);
        due(x.mirror(0), 3);
        squares(x, 0, 3, 1, 2, 3, 4, 27, 6);
        Desk even = drawn("AB");
        due(even.mirror(0), 2);
        squares(even, 0, 2, 2, 1);
        Desk high = drawn("AB", "CD", "EF");
        due(high.mirror(0), 2);
        squares(high, 0, 2, 2, 1, 4, 3, 6, 5);
        int[][] sizes = {{0, 0}, {0, 7}, {7, 0}, {1, 7}, {7, 1}, {7, 7}, {1, 1}};
        for (int[] size : sizes) {
            Desk y = sized(size[0], size[1]);
            due(y.mirror(0), size[1]);
            due(y.judge(0, 9), size[0]);
            due(y.judge(0, 10), size[1]);
            due(y.judge(0, 0), size[0] * size[1]);
        }
        test(27, "BARS are between what they were between: W.");
        Desk z = drawn("ABC", "DEF");
        z.bar(0, 0, 0, false, true);
        z.bar(0, 0, 2, true, true);
        z.bar(0, 1, 1, false, true);
        due(z.mirror(0), 3);
        squares(z, 0, 3, 3 + 64, 2 + 32, 1, 6 + 32, 5, 4);
        due(z.mirror(0), 3);
        squares(z, 0, 3, 1 + 32, 2, 3 + 64, 4, 5 + 32, 6);
        Desk all = barred();
        long digest = all.digest(0);
        due(all.mirror(0), 7);
        due(all.digest(0), digest);
        Desk u = busy();
        due(u.mirror(0), 2);
        due(u.uses(0, false, -1), 0);
        due(u.uses(0, true, -1), 1);
    }

    /** turn() or mirror(): what they refuse is alike. */
    private void turnRefused() {
        NumberCall[] calls = {(x, g) -> x.turn(g), (x, g) -> x.mirror(g)};
        String[] sentences = {"BAD; NOTHING: also a ROW is LACKING;", "BAD; NOTHING;"};
        String[] states = {"STATE: a ROW has not W SQUARES.", "STATE: likewise."};
        for (int i = 0; i < 2; i++) {
            NumberCall call = calls[i];
            test(26 + i, sentences[i]);
            bad(call, NO_GRID_NUMBERS);
            finds(x -> call.on(x, 3), NOTHING);
            // GRID 1 has a ROW that is cut ahead of one that is LACKING: NOTHING is told first.
            finds(x -> call.on(x, 1), NOTHING);
            for (int r = 0; r < 3; r++) {
                int row = r;
                findsOn(() -> cut(row, -1), x -> call.on(x, 3), NOTHING);
            }
            due(call.on(busy(), 0), 2);
            due(call.on(busy(), 2), 1);
            test(26 + i, states[i]);
            for (int r = 0; r < 3; r++) {
                for (int n = 0; n < 2; n++) {
                    int row = r;
                    int squares = n;
                    refusedOn(() -> cut(row, squares), x -> call.on(x, 3), STATE);
                }
            }
            Desk whole = cut(0, 2);
            due(call.on(whole, 3), 2);
            due(whole.finding(), 0);
            due(call.on(cut(2, 2), 3), 2);
        }
    }

    /** As busy(), with a GRID 3 of three ROWS of two SQUARES, one of them cut to n. */
    private Desk cut(int row, int n) {
        return busyWith(x -> {
            x.draw(3, "AB", "CD", "EF");
            return x.cut(3, row, n);
        });
    }
}
