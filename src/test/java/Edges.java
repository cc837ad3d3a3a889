import java.util.ArrayList;
import java.util.List;

/** What the tests of boundaries share: desks to begin with, and the look at all that a call must leave as it was. */
abstract class Edges {
    static final int BAD = WordGrid.BAD, STATE = WordGrid.STATE, FULL = WordGrid.FULL;
    static final int SPENT = WordGrid.SPENT, NONE = WordGrid.NONE;
    static final int NOTHING = -11, BEYOND = -12, SORT = -13, SIZE = -14, ZERO = -15;
    static final int PLAIN = 0, SCORED = 1, BANNED = 2, PATTERN = 3, JOINED = 4;
    static final int ALLOWS = 0, MANY = 1, SCORE = 3, KIND = 4;
    static final int MAX = Integer.MAX_VALUE, MIN = Integer.MIN_VALUE;
    static final int[] NO_GRID_NUMBERS = {-1, 4, MIN, MAX};
    /** Sentences of the terms that several promises share. */
    static final String NOTHING_IS = "1 NOTHING: where there is no GRID, no LIST, or a ROW is LACKING, and it is used;";
    static final String BEYOND_IS = "2 BEYOND: a ROW, a SQUARE, a place that there is not;";
    static final String WHITE_IS = "WHITE is a SQUARE that there is and is not BLACK (a ROW that is LACKING has none; "
        + "that is no FINDING where ENTRIES or SQUARES are looked at).";
    private static final int TRACE = 100;

    /** A desk as a test wants it; it is made twice, to compare what both tell. */
    interface Begin {
        Desk desk();
    }

    interface Call {
        long on(Desk x);
    }

    interface NumberCall {
        long on(Desk x, int n);
    }

    private final Sentences said;

    Edges(Sentences said) {
        this.said = said;
    }

    abstract void all();

    final void test(int promise, String sentence) {
        said.begin(promise, sentence);
    }

    final void due(long got, long want) {
        said.due(got, want);
    }

    final Desk desk() {
        return new Desk(said);
    }

    static long w(String text) {
        return Due.w(text);
    }

    /** One of 40 and more words of two letters, all unlike, each BEFORE the next. */
    static long nth(int i) {
        return w("" + (char) ('A' + i / 26) + (char) ('A' + i % 26));
    }

    /**
     * A desk where all that can be told is something. LISTS: 0 PLAIN, 1 SCORED, 2 BANNED, 3 PATTERN of 1, 4 JOINED of
     * 0, 2, 5 was dropped, 6 PATTERN of 5, 7 JOINED of 0, 5, 8 JOINED of 5, 0. GRIDS: 0 with two ENTRIES and a SEARCHING
     * that was SPENT, 1 with ROWS of 3 and 2 SQUARES and one that is LACKING, 2 of one SQUARE, 3 not there. The latest
     * FINDING is ZERO.
     */
    final Desk busy() {
        Desk x = desk();
        x.words(PLAIN, "AB", "AA");
        x.list(SCORED, 0, 0, 0);
        x.word(1, w("AB"), 5);
        x.word(1, w("BA"), -3);
        x.words(BANNED, "AB");
        x.list(PATTERN, 1, 0, w("?B"));
        x.list(JOINED, 0, 2, 0);
        x.words(PLAIN, "AB");
        x.list(PATTERN, 5, 0, w("??"));
        x.list(JOINED, 0, 5, 0);
        x.list(JOINED, 5, 0, 0);
        x.drop(5);
        x.draw(0, "..", "##", "..");
        x.uses(0, false, 0);
        x.uses(0, true, 1);
        x.draw(1, "AB.", "C#D", "...");
        x.uses(1, false, 1);
        x.bar(1, 0, 0, false, true);
        x.bar(1, 0, 1, true, true);
        x.cut(1, 1, 2);
        x.cut(1, 2, -1);
        x.draw(2, "Z");
        x.move(1, 0, 0, 1, 0, 0, 1, 1);
        x.solve(0, 1, 5000);
        x.fill(0, 2);
        x.judge(2, 8);
        return x;
    }

    /** As busy(), but the latest FINDING is BEYOND. */
    final Desk busyBeyond() {
        Desk x = busy();
        x.at(0, 9, 9);
        return x;
    }

    /** As busy(), with something more behind which a SEARCHING was SPENT again. */
    final Desk busyWith(Call more) {
        Desk x = busy();
        more.on(x);
        x.fill(0, 2);
        x.judge(2, 8);
        return x;
    }

    /** As busy(), with as many LISTS as there can be. */
    final Desk sixteenLists() {
        return busyWith(x -> {
            while (x.count(0) < 16) {
                x.list(PLAIN, 0, 0, 0);
            }
            return 0;
        });
    }

    /** A GRID 0 of 2 by 2, for WORDS of LIST 0 across and of LIST 1 down. */
    final Desk twoByTwo(String across, String down) {
        Desk x = desk();
        x.words(PLAIN, across.split(" "));
        x.words(PLAIN, down.split(" "));
        x.draw(0, "..", "..");
        x.uses(0, false, 0);
        x.uses(0, true, 1);
        return x;
    }

    /**
     * A GRID 0 with as many ENTRIES as there can be, three to each ROW and to each place; a WORD stands in each, and is in
     * LIST 0 (across) or 1 (down).
     */
    final Desk mostEntries() {
        Desk x = desk();
        x.list(PLAIN, 0, 0, 0);
        x.list(PLAIN, 0, 0, 0);
        x.grid(0, 7, 7);
        for (int i = 0; i < 7; i++) {
            for (int j = 0; j < 7; j++) {
                x.letter(0, i, j, 1 + (i + 2 * j + i * j) % 26);
            }
            for (int j = 1; j < 5; j += 2) {
                x.bar(0, i, j, false, true);
                x.bar(0, j, i, true, true);
            }
        }
        for (int e = 0; e < 42; e++) {
            x.word(x.entry(0, e, 2), x.stands(0, e), 0);
        }
        x.uses(0, false, 0);
        x.uses(0, true, 1);
        return x;
    }

    /** A refused call answers so, finding() is 0 then, and all else is told as if it had not been. */
    final void refused(Call call, long answer) {
        refusedOn(this::busy, call, answer);
    }

    final void refusedOn(Begin begin, Call call, long answer) {
        Desk x = begin.desk();
        due(call.on(x), answer);
        due(x.finding(), 0);
        sameBut(x, begin.desk(), 0);
    }

    final void bad(NumberCall call, int... numbers) {
        for (int n : numbers) {
            refused(x -> call.on(x, n), BAD);
        }
    }

    /** A call with a FINDING, and the BODIES that begin in it, the first one first: nothing else is another then. */
    final void finds(Call call, int finding, int... bodies) {
        findsOn(this::busy, call, finding, bodies);
    }

    final void findsOn(Begin begin, Call call, int finding, int... bodies) {
        Desk x = begin.desk();
        due(call.on(x), finding);
        foundLike(x, begin.desk(), finding, bodies);
    }

    /** As finds(), of a call that answers a long. */
    final void findsOfLong(Call call, int finding, int... bodies) {
        Desk x = busy();
        due(call.on(x), 0);
        foundLike(x, busy(), finding, bodies);
    }

    /** A call with a FINDING that leaves all as another call does that has none. */
    final void findsLike(Begin begin, Call other, Call call, int finding, int... bodies) {
        Desk x = begin.desk();
        due(call.on(x), finding);
        Desk twin = begin.desk();
        other.on(twin);
        due(twin.finding(), 0);
        foundLike(x, twin, finding, bodies);
    }

    private void foundLike(Desk x, Desk twin, int finding, int... bodies) {
        due(x.finding(), -10 - finding);
        sameBut(x, twin, finding, bodies);
    }

    private void sameBut(Desk x, Desk twin, int finding, int... bodies) {
        sameTrace(x, twin, bodies);
        for (int kind = 1; kind <= 5; kind++) {
            long want = twin.found(kind) + (kind == -10 - finding ? 1 : 0);
            due(x.found(kind), want);
        }
        for (int what = 0; what <= 4; what++) {
            long want = twin.count(what) + (what == 4 ? bodies.length : 0);
            due(x.count(what), want);
        }
        for (Call tell : tellings(x.count(0))) {
            long want = tell.on(twin);
            due(tell.on(x), want);
        }
    }

    private void sameTrace(Desk x, Desk twin, int... bodies) {
        for (int i = 0; i <= TRACE; i++) {
            int before = i - bodies.length;
            int want = i == TRACE ? NONE : before < 0 ? bodies[bodies.length - 1 - i] : twin.trace(before);
            due(x.trace(i), want);
        }
    }

    /** All that later calls can tell, those first that change least. */
    private static List<Call> tellings(int lists) {
        List<Call> all = new ArrayList<>();
        all.add(Desk::moved);
        squaresAndSearch(all);
        for (int i = 0; i < 12; i++) {
            int k = i / 4;
            int e = i % 4;
            all.add(x -> x.first(k, e));
        }
        for (int g = 0; g < 4; g++) {
            int grid = g;
            all.add(x -> x.judge(grid, 9));
            all.add(x -> x.judge(grid, 10));
        }
        all.add(x -> x.goOn(1));
        squaresAndSearch(all);
        all.add(x -> x.goOn(5000));
        squaresAndSearch(all);
        for (int l = 0; l < lists; l++) {
            listTellings(all, l);
        }
        for (int g = 0; g < 4; g++) {
            int grid = g;
            all.add(x -> x.uses(grid, false, -1));
            all.add(x -> x.uses(grid, true, -1));
        }
        all.add(x -> x.list(PLAIN, 0, 0, 0));
        return all;
    }

    private static void squaresAndSearch(List<Call> all) {
        for (int i = 0; i < 4; i++) {
            int n = i;
            all.add(x -> x.digest(n));
            all.add(x -> x.searched(n));
        }
    }

    private static void listTellings(List<Call> all, int l) {
        all.add(x -> x.ask(l, KIND, 0));
        all.add(x -> x.ask(l, MANY, 0));
        all.add(x -> x.ask(l, ALLOWS, w("AB")));
        all.add(x -> x.ask(l, SCORE, w("AB")));
        all.add(x -> x.ask(l, SCORE, w("BA")));
        for (int i = 0; i < 3; i++) {
            int k = i;
            all.add(x -> x.wordOf(l, k));
        }
    }

    /** Looks at the BODIES that began since there were so many, the first one first. */
    final void began(Desk x, int before, int... bodies) {
        due(x.count(4) - before, bodies.length);
        for (int i = 0; i < bodies.length; i++) {
            due(x.trace(bodies.length - 1 - i), bodies[i]);
        }
    }

    /** Every SQUARE of a whole GRID as at() tells it, ROW by ROW. */
    final void squares(Desk x, int g, int width, int... want) {
        for (int i = 0; i < want.length; i++) {
            due(x.at(g, i / width, i % width), want[i]);
        }
    }

    final void searched(Desk x, int steps, int fillings, int entries, int candidates) {
        due(x.searched(0), steps);
        due(x.searched(1), fillings);
        due(x.searched(2), entries);
        due(x.searched(3), candidates);
    }
}
