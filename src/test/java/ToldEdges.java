/** The boundaries of promises 28 to 32: THE TRACE, FINDINGS, digests and counts. */
final class ToldEdges extends Edges {
    ToldEdges(Sentences said) {
        super(said);
    }

    @Override
    void all() {
        trace();
        traceKept();
        findingOfCalls();
        findingStays();
        answers();
        found();
        digest();
        digestOfNone();
        count();
        countedBehindFindings();
        countRefused();
    }

    private void trace() {
        test(28, "Number i of THE TRACE, the latest one is 0.");
        Desk x = busy();
        x.ask(4, ALLOWS, w("AA"));
        due(x.trace(0), 0);
        due(x.trace(1), 20);
        due(x.trace(2), 0);
        due(x.trace(3), 40);
        x.ask(0, MANY, 0);
        due(x.trace(0), 1);
        due(x.trace(1), 0);
        due(x.trace(4), 40);
        test(28, "NONE.");
        due(x.trace(-1), NONE);
        due(x.trace(MIN), NONE);
        due(x.trace(MAX), NONE);
        due(desk().trace(0), NONE);
        Desk y = desk();
        y.list(PLAIN, 0, 0, 0);
        y.ask(0, MANY, 0);
        due(y.trace(0), 1);
        due(y.trace(1), NONE);
        y.ask(0, MANY, 0);
        due(y.trace(1), 1);
        due(y.trace(2), NONE);
        test(28, "NONE -5.");
        due(NONE, -5);
        due(y.trace(2), -5);
        due(y.trace(1), 1);
    }

    private void traceKept() {
        test(28, "(the latest 100 are kept;");
        Desk x = desk();
        x.list(SCORED, 0, 0, 0);
        x.ask(0, MANY, 0);
        for (int i = 0; i < 98; i++) {
            x.ask(0, ALLOWS, w("AB"));
        }
        due(x.trace(98), 1);
        due(x.trace(99), NONE);
        x.ask(0, ALLOWS, w("AB"));
        due(x.trace(99), 1);
        due(x.trace(100), NONE);
        x.ask(0, ALLOWS, w("AB"));
        due(x.trace(99), 0);
        due(x.trace(100), NONE);
        due(x.count(4), 101);
        // As often round as one call can bring it.
        x.ask(0, SCORE, w("AB"));
        due(x.trace(0), 3);
        due(x.trace(1), 13);
        due(x.trace(2), 0);
        for (int i = 0; i < 97; i++) {
            x.ask(0, ALLOWS, w("AB"));
        }
        due(x.trace(98), 13);
        due(x.trace(97), 3);
        x.ask(0, ALLOWS, w("AB"));
        due(x.trace(99), 13);
        x.ask(0, ALLOWS, w("AB"));
        due(x.trace(99), 3);
        due(x.trace(100), NONE);
    }

    /** Each call of those above finding(), with no FINDING, refused, and with one. */
    private void findingOfCalls() {
        test(29, "The FINDING of the latest call of these above but trace() (first(), searched(), moved() too): 0: none.");
        is(0, x -> x.grid(3, 1, 1), x -> x.grid(4, 1, 1));
        is(4, x -> x.grid(3, -1, 1));
        is(0, x -> x.cut(1, 0, 1), x -> x.cut(1, 0, -2));
        is(1, x -> x.cut(1, 2, -1), x -> x.cut(3, 0, 0));
        is(2, x -> x.cut(1, 0, 4));
        is(0, x -> x.letter(1, 0, 0, 1), x -> x.letter(1, 1, 1, 1), x -> x.letter(1, 0, 0, 27));
        is(1, x -> x.letter(1, 2, 0, 1));
        is(2, x -> x.letter(1, 0, 3, 1));
        is(0, x -> x.black(1, 0, 0, true), x -> x.black(4, 0, 0, true));
        is(2, x -> x.black(1, 3, 0, true));
        is(0, x -> x.bar(1, 0, 0, true, true), x -> x.bar(1, 0, 2, false, true), x -> x.bar(4, 0, 0, true, true));
        is(1, x -> x.bar(3, 0, 0, true, true));
        is(0, x -> x.at(1, 0, 0), x -> x.at(4, 0, 0));
        is(2, x -> x.at(1, 0, 3));
        is(0, x -> x.list(0, 0, 0, 0), x -> x.list(5, 0, 0, 0), x -> x.list(4, 9, 9, 0));
        is(0, x -> x.drop(0), x -> x.drop(9));
        is(1, x -> x.drop(5));
        is(0, x -> x.word(0, w("AB"), 0), x -> x.word(0, 0, 0));
        is(1, x -> x.word(5, w("AB"), 0));
        is(3, x -> x.word(4, w("AB"), 0));
        is(0, x -> x.ask(0, MANY, 0), x -> x.ask(0, 2, 0), x -> x.ask(6, KIND, 0));
        is(1, x -> x.ask(6, MANY, 0));
        is(0, x -> x.wordOf(0, 0), x -> x.wordOf(9, 0), x -> x.wordOf(4, 0));
        is(1, x -> x.wordOf(5, 0));
        is(2, x -> x.wordOf(0, 2));
        is(0, x -> x.uses(0, true, -1), x -> x.uses(0, true, -2), x -> x.uses(0, true, 5));
        is(1, x -> x.uses(3, true, -1));
        entriesAndSearches();
    }

    private void entriesAndSearches() {
        is(0, x -> x.entries(1), x -> x.entries(4));
        is(1, x -> x.entries(3));
        is(0, x -> x.entry(0, 0, 0), x -> x.entry(0, 0, 5));
        is(2, x -> x.entry(0, 2, 0));
        is(0, x -> x.stands(0, 0), x -> x.stands(4, 0));
        is(1, x -> x.stands(3, 0));
        is(2, x -> x.stands(0, 2));
        is(0, x -> x.crossing(0, 0, 1), x -> x.crossing(0, 0, 0), x -> x.crossing(4, 0, 0));
        is(2, x -> x.crossing(0, 0, 2));
        is(0, x -> x.fill(0, 1), x -> x.fill(0, 5000), x -> x.fill(0, 0), x -> x.fill(2, 1));
        is(1, x -> x.fill(3, 1), x -> x.fill(1, 1));
        is(0, x -> x.goOn(1), x -> x.goOn(0));
        is(0, x -> x.solve(0, 1, 1), x -> x.solve(0, 1, 5000), x -> x.solve(0, 0, 1));
        is(1, x -> x.solve(3, 1, 1));
        is(0, x -> x.first(0, 0), x -> x.first(-1, 0), x -> x.first(0, 42));
        is(0, x -> x.searched(0), x -> x.searched(4));
        is(0, x -> x.judge(0, 8), x -> x.judge(0, 11), x -> x.judge(2, 5));
        is(1, x -> x.judge(3, 8));
        is(5, x -> x.judge(2, 8));
        is(0, x -> x.move(0, 0, 0, 0, 0, 0, 1, 1), x -> x.move(0, 9, 0, 0, 0, 0, 0, 1), x -> x.move(0, 0, 0, 0, 0, 0, 8, 1));
        is(1, x -> x.move(1, 1, 0, 0, 0, 0, 2, 1));
        is(2, x -> x.move(0, 2, 0, 0, 0, 0, 2, 1));
        is(0, Desk::moved);
        is(0, x -> x.turn(0), x -> x.turn(4));
        is(1, x -> x.turn(1));
        is(0, x -> x.mirror(0), x -> x.mirror(4));
        is(1, x -> x.mirror(3));
        due(desk().finding(), 0);
    }

    /** Each of the calls, behind each of two other FINDINGS, is told by finding(), as often as it is asked. */
    private void is(int finding, Call... calls) {
        for (Call call : calls) {
            for (int before = 0; before < 2; before++) {
                Desk x = before == 0 ? busy() : busyBeyond();
                due(x.finding(), before == 0 ? 5 : 2);
                call.on(x);
                due(x.finding(), finding);
                due(x.finding(), finding);
            }
        }
    }

    private void findingStays() {
        test(29, "The FINDING of the latest call of these above but trace()");
        leaves(x -> x.trace(0), x -> x.trace(-1), x -> x.trace(100));
        // found() stands below finding(): it leaves it, BAD or not.
        leaves(x -> x.found(1), x -> x.found(5), x -> x.found(0), x -> x.found(6));
        test(31, "(finding() stays.)");
        leaves(x -> x.digest(0), x -> x.digest(3), x -> x.digest(-1), x -> x.digest(4));
        test(32, "(finding() stays.)");
        leaves(x -> x.count(0), x -> x.count(4), x -> x.count(-1), x -> x.count(5));
    }

    /** Calls that leave finding() as it is: ZERO, BEYOND, or none. */
    private void leaves(Call... calls) {
        for (Call call : calls) {
            Desk x = busy();
            call.on(x);
            due(x.finding(), 5);
            x.at(0, 9, 9);
            call.on(x);
            due(x.finding(), 2);
            x.moved();
            call.on(x);
            due(x.finding(), 0);
        }
    }

    private void answers() {
        test(29, "Answers, the first that fits: BAD -1 (a number is not as told), STATE -2, FULL -3; these change nothing but "
            + "finding() (0 then).");
        due(BAD, -1);
        due(STATE, -2);
        due(FULL, -3);
        refused(x -> x.letter(1, 1, 1, 27), -1);
        refused(x -> x.letter(1, 1, 1, 26), -2);
        refused(x -> x.goOn(0), -1);
        refused(x -> x.bar(2, 0, 0, true, true), -2);
        refusedOn(this::sixteenLists, x -> x.list(5, 0, 0, 0), -1);
        refusedOn(this::sixteenLists, x -> x.list(4, 0, 0, 0), -3);
    }

    private void found() {
        test(30, "How many FINDINGS of a kind 1 .. 5 there were.");
        Desk x = busy();
        int[] there = {0, 0, 0, 0, 1};
        Call[] calls = {y -> y.entries(3), y -> y.at(0, 9, 9), y -> y.word(3, w("AB"), 0), y -> y.grid(3, 0, -1),
            y -> y.judge(2, 8)};
        for (int round = 0; round < 3; round++) {
            for (int kind = 1; kind <= 5; kind++) {
                due(calls[kind - 1].on(x), -10 - kind);
                there[kind - 1]++;
                for (int i = 1; i <= 5; i++) {
                    due(x.found(i), there[i - 1]);
                }
            }
        }
        test(30, "FINDINGS are what the machine refuses:");
        // A call has one FINDING at most, and one without any counts nothing.
        Desk y = busy();
        due(y.crossing(0, 9, 9), BEYOND);
        due(y.found(2), 1);
        due(y.move(3, 9, 9, 3, 9, 9, 7, 7), NOTHING);
        due(y.found(1), 1);
        due(y.goOn(1), STATE);
        due(y.at(4, 0, 0), BAD);
        due(y.crossing(0, 0, 1), NONE);
        due(y.found(1) + y.found(2) + y.found(3) + y.found(4) + y.found(5), 3);
        test(30, "BAD.");
        int[] kinds = {0, 6, -1, MIN, MAX};
        for (int kind : kinds) {
            due(busy().found(kind), BAD);
        }
        due(busy().found(1), 0);
        due(busy().found(5), 1);
    }

    private void digest() {
        test(31, "d is 7; for each ROW of a GRID: d becomes 31 d and how many SQUARES it has (-1: LACKING), then for each "
            + "SQUARE 31 d and what at() tells (longs that wrap).");
        Desk x = desk();
        x.grid(0, 0, 0);
        due(x.digest(0), 7);
        x.grid(0, 0, 7);
        due(x.digest(0), 7);
        x.grid(0, 1, 0);
        due(x.digest(0), 7 * 31);
        x.grid(0, 1, 1);
        due(x.digest(0), (7 * 31 + 1) * 31);
        x.cut(0, 0, 0);
        due(x.digest(0), 7 * 31);
        x.cut(0, 0, -1);
        due(x.digest(0), 7 * 31 - 1);
        x.draw(0, "A#", "Z.");
        x.bar(0, 0, 0, false, true);
        x.bar(0, 0, 1, true, true);
        due(x.digest(0), sum(2, 1 + 32, 27 + 64, 2, 26, 0));
        x.bar(0, 0, 0, true, true);
        due(x.digest(0), sum(2, 1 + 32 + 64, 27 + 64, 2, 26, 0));
        x.cut(0, 0, 1);
        due(x.digest(0), sum(1, 1 + 32 + 64, 2, 26, 0));
        x.cut(0, 0, -1);
        due(x.digest(0), sum(-1, 2, 26, 0));
        wrapping();
    }

    private static long sum(int... told) {
        long d = 7;
        for (int n : told) {
            d = 31 * d + n;
        }
        return d;
    }

    /** 31 to the 12th is within a long, to the 13th it is not. */
    private void wrapping() {
        Desk x = desk();
        x.grid(0, 7, 7);
        x.grid(1, 2, 6);
        int[] told = new int[56];
        for (int r = 0; r < 7; r++) {
            told[r * 8] = 7;
            for (int c = 0; c < 7; c++) {
                x.letter(0, r, c, 1 + r * c % 26);
                told[r * 8 + 1 + c] = 1 + r * c % 26;
            }
        }
        due(x.digest(0), sum(told));
        due(x.digest(1), sum(6, 0, 0, 0, 0, 0, 0, 6, 0, 0, 0, 0, 0, 0));
        x.grid(1, 1, 7);
        due(x.digest(1), sum(7, 0, 0, 0, 0, 0, 0, 0));
    }

    private void digestOfNone() {
        test(31, "0: BAD, no GRID.");
        for (int g : NO_GRID_NUMBERS) {
            due(busy().digest(g), 0);
        }
        Desk x = busy();
        due(x.digest(3), 0);
        due(x.found(1), 0);
        x.grid(3, 0, 0);
        due(x.digest(3), 7);
        due(desk().digest(0), 0);
    }

    private void count() {
        test(32, "0 LISTS made,");
        Desk x = desk();
        for (int l = 0; l < 16; l++) {
            due(x.count(0), l);
            x.list(l % 3, 0, 0, 0);
            x.list(5, 0, 0, 0);
        }
        due(x.count(0), 16);
        x.list(PLAIN, 0, 0, 0);
        due(x.count(0), 16);
        test(32, "1 those that are there,");
        for (int l = 0; l < 16; l++) {
            due(x.count(1), 16 - l);
            x.drop(l);
            x.drop(l);
            x.drop(16);
        }
        due(x.count(1), 0);
        due(x.count(0), 16);
        test(32, "2 GRIDS that are there,");
        for (int g = 0; g < 4; g++) {
            due(x.count(2), g);
            x.grid(g, -1, 0);
            x.grid(g, 8, 0);
            due(x.count(2), g);
            x.grid(g, 0, 0);
            x.grid(g, 7, 7);
        }
        due(x.count(2), 4);
        x.cut(0, 0, -1);
        due(x.count(2), 4);
    }

    private void countedBehindFindings() {
        test(32, "3 STEPS ever,");
        Desk x = desk();
        due(x.count(3), 0);
        x.words(PLAIN, "AA", "AB");
        x.draw(0, "..", "##", "..");
        x.uses(0, false, 0);
        x.fill(0, 2);
        due(x.count(3), 2);
        x.solve(0, 9, 5000);
        due(x.count(3), 2 + 6);
        x.goOn(1);
        due(x.count(3), 2 + 6 + 1);
        x.goOn(1);
        x.fill(0, 0);
        x.fill(1, 9);
        x.solve(1, 1, 9);
        due(x.count(3), 9);
        x.grid(0, 1, 1);
        x.fill(0, 9);
        due(x.count(3), 9);
        test(32, "4 BODIES ever.");
        // MANY, two WORDS and their SCORES, of each of two ENTRIES, twice.
        due(x.count(4), 20);
        x.ask(0, ALLOWS, w("AA"));
        due(x.count(4), 21);
        x.ask(0, KIND, 0);
        x.ask(0, ALLOWS, 0);
        x.ask(1, MANY, 0);
        due(x.count(4), 21);
        x.wordOf(0, 2);
        due(x.finding(), 2);
        due(x.count(4), 22);
        x.drop(0);
        x.ask(0, MANY, 0);
        x.wordOf(0, 0);
        due(x.count(4), 22);
    }

    private void countRefused() {
        test(32, "BAD.");
        int[] whats = {-1, 5, MIN, MAX};
        for (int what : whats) {
            due(busy().count(what), BAD);
        }
        due(busy().count(0), 9);
        due(busy().count(4) > 0 ? 1 : 0, 1);
    }
}
