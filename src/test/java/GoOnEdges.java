/** The boundaries of promise 19: a SEARCHING that was SPENT goes on, or not. */
final class GoOnEdges extends Edges {
    GoOnEdges(Sentences said) {
        super(said);
    }

    @Override
    void all() {
        goesOn();
        stepsMore();
        solveBetween();
        refusedSteps();
        notSpent();
        changes();
        noChanges();
        moves();
    }

    /** A SEARCHING that finds none, with 36 STEPS: both across are taken first, then no place agrees. */
    private Desk none() {
        return twoByTwo("AA BB CC", "CC DD EE FF");
    }

    /** A SEARCHING that finds AB over CD with 6 STEPS. */
    private Desk one() {
        return twoByTwo("CD AB", "BD AC");
    }

    private void goesOn() {
        test(19, "The SEARCHING that was SPENT goes on from there");
        for (int steps = 1; steps < 36; steps++) {
            Desk x = none();
            due(x.fill(0, steps), SPENT);
            due(x.goOn(36 - steps), 0);
            searched(x, 36 - steps, 0, 4, 14);
            due(x.count(3), 36);
        }
        for (int steps = 1; steps < 6; steps++) {
            Desk x = one();
            due(x.fill(0, steps), SPENT);
            for (int i = steps; i < 5; i++) {
                due(x.goOn(1), SPENT);
                squares(x, 0, 2, 0, 0, 0, 0);
            }
            due(x.goOn(1), 1);
            squares(x, 0, 2, 1, 2, 3, 4);
            due(x.count(3), 6);
        }
        test(19, "(CANDIDATES as they were found then; no BODY begins),");
        Desk x = one();
        x.fill(0, 1);
        int bodies = x.count(4);
        int latest = x.trace(0);
        due(x.goOn(1), SPENT);
        due(x.goOn(5000), 1);
        due(x.count(4), bodies);
        due(x.trace(0), latest);
        due(x.searched(3), 8);
        x.fill(0, 1);
        due(x.count(4) == bodies ? 1 : 0, 0);
        due(x.searched(3), 4);
    }

    private void stepsMore() {
        test(19, "with so many STEPS more: as fill().");
        int[][] rows = {{1, 34, SPENT}, {1, 35, 0}, {1, 36, 0}, {35, 1, 0}, {34, 1, SPENT}, {1, 5000, 0}};
        for (int[] row : rows) {
            Desk x = none();
            due(x.fill(0, row[0]), SPENT);
            due(x.goOn(row[1]), row[2]);
            due(x.searched(0), Math.min(row[1], 36 - row[0]));
            due(x.finding(), 0);
            squares(x, 0, 2, 0, 0, 0, 0);
        }
        Desk x = one();
        due(x.fill(0, 1), SPENT);
        due(x.goOn(4), SPENT);
        due(x.goOn(1), 1);
        due(x.stands(0, 0), w("AB"));
        // Of two GRIDS it is the one whose SEARCHING was SPENT later.
        Desk y = busy();
        y.draw(3, "..", "##", "..");
        y.uses(3, false, 1);
        due(y.fill(0, 2), SPENT);
        due(y.fill(3, 2), SPENT);
        due(y.goOn(1), 1);
        due(y.stands(3, 0), w("AB"));
        due(y.stands(3, 1), w("BA"));
        due(y.stands(0, 0), 0);
        due(y.goOn(1), STATE);
    }

    private void solveBetween() {
        test(19, "Any solve() between does not matter.");
        int[][] solves = {{0, 1, 1}, {0, 1, 5000}, {0, 1000, 5000}, {2, 1, 1}, {3, 1, 1}, {1, 1, 1}, {0, 0, 1}, {4, 1, 1}};
        for (int[] solve : solves) {
            Desk x = busy();
            x.solve(solve[0], solve[1], solve[2]);
            due(x.goOn(1), 1);
            searched(x, 1, 1, 2, 4);
            due(x.stands(0, 1), w("AB"));
            Desk y = busy();
            due(y.fill(0, 1), SPENT);
            y.solve(solve[0], solve[1], solve[2]);
            due(y.goOn(1), SPENT);
            y.solve(solve[0], solve[1], solve[2]);
            due(y.goOn(1), 1);
        }
        Desk x = busy();
        x.solve(0, 1, 1);
        due(x.first(0, 0), 0);
        x.goOn(1);
        due(x.first(0, 0), 0);
    }

    private void refusedSteps() {
        test(19, "BAD;");
        bad((x, steps) -> x.goOn(steps), 0, -1, 5001, MIN, MAX);
        due(busy().goOn(1), 1);
        due(busy().goOn(5000), 1);
        // BAD is ahead of STATE.
        due(desk().goOn(0), BAD);
        due(desk().goOn(5001), BAD);
        due(desk().goOn(1), STATE);
        due(desk().goOn(5000), STATE);
    }

    /** A desk whose SEARCHING is at its end, by one FILLING or by none. */
    private Desk ended(boolean filled) {
        Desk x = busy();
        if (!filled) {
            x.draw(0, "AB", "##", "AB");
            x.uses(0, false, 0);
        }
        due(x.fill(0, 5000), filled ? 1 : 0);
        x.judge(2, 8);
        return x;
    }

    private void notSpent() {
        test(19, "STATE: the latest fill() or goOn() that was no BAD, STATE was not SPENT,");
        refusedOn(() -> ended(true), x -> x.goOn(1), STATE);
        refusedOn(() -> ended(false), x -> x.goOn(5000), STATE);
        Desk x = busy();
        due(x.goOn(1), 1);
        due(x.goOn(1), STATE);
        due(x.goOn(1), STATE);
        Desk y = none();
        y.fill(0, 35);
        due(y.goOn(1), 0);
        due(y.goOn(1), STATE);
        // A fill() with a FINDING was no BAD, and not SPENT.
        Desk z = busy();
        due(z.fill(3, 1), NOTHING);
        due(z.goOn(1), STATE);
        Desk none = busy();
        due(none.fill(1, 1), NOTHING);
        due(none.goOn(1), STATE);
        // One that was BAD does not matter, nor a goOn() that was.
        Desk u = busy();
        u.fill(4, 1);
        u.fill(0, 0);
        u.fill(3, 5001);
        u.goOn(0);
        due(u.goOn(1), 1);
        Desk empty = busy();
        due(empty.fill(2, 1), 1);
        due(empty.goOn(1), STATE);
    }

    private void ends(Call change) {
        Desk x = busy();
        change.on(x);
        due(x.goOn(1), STATE);
        due(x.finding(), 0);
        due(x.fill(0, 1) <= 1 ? 1 : 0, 1);
    }

    private void changes() {
        test(19, "or something was changed since (by grid(), cut(), letter(), black(), bar(), list(), drop(), word(), uses(), "
            + "move(), turn(), mirror(), if they were not refused and had no FINDING, also where all is as before;");
        ends(x -> x.grid(3, 0, 0));
        ends(x -> x.grid(2, 1, 1));
        ends(x -> x.cut(0, 0, 2));
        ends(x -> x.cut(1, 0, 2));
        ends(x -> x.letter(0, 0, 0, 0));
        ends(x -> x.letter(1, 0, 0, 1));
        ends(x -> x.letter(2, 0, 0, 3));
        ends(x -> x.black(0, 1, 0, true));
        ends(x -> x.black(0, 0, 0, false));
        ends(x -> x.black(2, 0, 0, true));
        ends(x -> x.bar(0, 0, 0, false, false));
        ends(x -> x.bar(1, 0, 0, false, true));
        ends(x -> x.bar(1, 0, 0, true, true));
        for (int kind = PLAIN; kind <= JOINED; kind++) {
            int k = kind;
            ends(x -> x.list(k, 0, 0, w("??")));
        }
        ends(x -> x.drop(8));
        ends(x -> x.drop(0));
        ends(x -> x.word(0, w("AB"), 0));
        ends(x -> x.word(1, w("AB"), 5));
        ends(x -> x.word(2, w("ZZ"), 0));
        ends(x -> x.uses(0, false, 0));
        ends(x -> x.uses(2, true, -1));
        ends(x -> x.turn(2));
        ends(x -> x.mirror(2));
        ends(x -> x.mirror(0));
    }

    private void goesOnBehind(Call call, int answer) {
        goesOnBehind(this::busy, call, answer);
    }

    private void goesOnBehind(Begin begin, Call call, int answer) {
        Desk x = begin.desk();
        due(call.on(x), answer);
        due(x.goOn(1), 1);
    }

    private void noChanges() {
        test(19, "if they were not refused and had no FINDING,");
        goesOnBehind(x -> x.grid(4, 1, 1), BAD);
        goesOnBehind(x -> x.grid(0, 8, 1), BAD);
        goesOnBehind(x -> x.grid(0, -1, 1), SIZE);
        goesOnBehind(x -> x.cut(0, 0, -2), BAD);
        goesOnBehind(x -> x.cut(0, 0, 3), BEYOND);
        goesOnBehind(x -> x.cut(1, 2, -1), NOTHING);
        goesOnBehind(x -> x.letter(0, 0, 0, 27), BAD);
        goesOnBehind(x -> x.letter(0, 1, 0, 1), STATE);
        goesOnBehind(x -> x.letter(0, 0, 2, 1), BEYOND);
        goesOnBehind(x -> x.black(4, 0, 0, true), BAD);
        goesOnBehind(x -> x.black(0, 3, 0, true), BEYOND);
        goesOnBehind(x -> x.bar(-1, 0, 0, true, true), BAD);
        goesOnBehind(x -> x.bar(0, 0, 1, false, true), STATE);
        goesOnBehind(x -> x.bar(0, 0, 2, false, true), BEYOND);
        goesOnBehind(x -> x.list(5, 0, 0, 0), BAD);
        goesOnBehind(x -> x.drop(9), BAD);
        goesOnBehind(x -> x.drop(5), NOTHING);
        goesOnBehind(x -> x.word(0, 0, 0), BAD);
        goesOnBehind(x -> x.word(5, w("AB"), 0), NOTHING);
        goesOnBehind(x -> x.word(3, w("AB"), 0), SORT);
        goesOnBehind(x -> x.uses(0, false, 9), BAD);
        goesOnBehind(x -> x.uses(3, false, 0), NOTHING);
        goesOnBehind(x -> x.turn(4), BAD);
        goesOnBehind(x -> x.turn(3), NOTHING);
        goesOnBehind(x -> x.turn(1), NOTHING);
        goesOnBehind(x -> x.mirror(-1), BAD);
        goesOnBehind(x -> x.mirror(1), NOTHING);
        goesOnBehind(this::fullDesk, x -> x.list(PLAIN, 0, 0, 0), FULL);
        goesOnBehind(this::fullDesk, x -> x.word(9, nth(40), 0), FULL);
        goesOnBehind(this::fullDesk, x -> x.turn(3), STATE);
        goesOnBehind(this::fullDesk, x -> x.mirror(3), STATE);
        // Calls that only look change nothing.
        goesOnBehind(x -> x.at(0, 0, 0), 0);
        goesOnBehind(x -> x.ask(0, MANY, 0), 2);
        goesOnBehind(x -> x.wordOf(0, 9), 0);
        goesOnBehind(x -> x.entries(0), 2);
        goesOnBehind(x -> x.judge(0, 8), 2);
        goesOnBehind(x -> x.moved(), 1);
        goesOnBehind(x -> x.searched(0), 2);
    }

    /** A desk where no more LISTS can be made, LIST 9 has 40 WORDS, a ROW of GRID 3 is cut, and a SEARCHING was SPENT. */
    private Desk fullDesk() {
        Desk x = sixteenLists();
        for (int i = 0; i < 40; i++) {
            x.word(9, nth(i), 0);
        }
        x.grid(3, 2, 2);
        x.cut(3, 1, 1);
        x.fill(0, 2);
        return x;
    }

    private void moves() {
        test(19, "by move(), if it was no BAD).");
        ends(x -> x.move(0, 0, 0, 0, 0, 0, 0, 0));
        ends(x -> x.move(3, 0, 0, 3, 0, 0, 0, 7));
        ends(x -> x.move(0, 0, 0, 0, 0, 0, 1, 2));
        ends(x -> x.move(2, 0, 0, 2, 0, 0, 1, 0));
        // Also one that FINDS something at once, and brings nothing.
        ends(x -> x.move(3, 0, 0, 0, 0, 0, 1, 1));
        ends(x -> x.move(0, 3, 0, 0, 0, 0, 1, 1));
        ends(x -> x.move(1, 2, 0, 0, 0, 0, 1, 1));
        ends(x -> x.move(2, 0, 0, 2, 0, 1, 1, 1));
        ends(x -> x.move(2, 0, 0, 2, 0, 0, 2, 1));
        goesOnBehind(x -> x.move(4, 0, 0, 0, 0, 0, 1, 1), BAD);
        goesOnBehind(x -> x.move(0, 0, 0, -1, 0, 0, 1, 1), BAD);
        goesOnBehind(x -> x.move(0, 0, 0, 0, 0, 0, 8, 1), BAD);
        goesOnBehind(x -> x.move(0, 0, 0, 0, 0, 0, 1, -1), BAD);
    }
}
