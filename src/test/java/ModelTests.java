/** Long runs of calls, drawn by a written row of numbers, on a WordGrid and on the Model: all answers must be alike. */
public final class ModelTests {
    private static final int RUNS = 8000;
    /** What an object answers behind so many calls is free. */
    private static final int MOST_CALLS = 512;
    /** As many as are left for the comparison that ends a run. */
    private static final int LAST_CALLS = 170;
    private static final int[] ODD = {-1, -2, 4, 7, 8, 16, 40, 1000, Integer.MAX_VALUE, Integer.MIN_VALUE};

    private final WordGrid x = new WordGrid();
    private final Model m = new Model();
    private final StringBuilder log = new StringBuilder();
    private long state;
    private final int letters;
    private final int side;
    private final int grids;
    private boolean wrong;
    private int calls;
    /** How often an answer was given, so that the runs can be seen to reach what they should. */
    private static final int[] SEEN = new int[64];
    private static int goneOn;
    private static int filled;
    private static int solvedMany;

    private ModelTests(int run) {
        state = 88172645463325252L + 7919L * run;
        letters = 2 + run % 3;
        side = 2 + run % 6;
        grids = 1 + run % 4;
    }

    private int draw(int n) {
        state = state * 6364136223846793005L + 1442695040888963407L;
        return (int) Math.floorMod(state >>> 33, (long) n);
    }

    private int draw(int from, int to) {
        return from + draw(to - from + 1);
    }

    /** A number of 0 .. n - 1, at times one that is odd. */
    private int near(int n) {
        return draw(40) == 0 ? ODD[draw(ODD.length)] : draw(n);
    }

    private int g() {
        return near(grids);
    }

    private int place() {
        return draw(12) == 0 ? draw(-1, 7) : near(side);
    }

    private boolean coin() {
        return draw(2) == 0;
    }

    private long word() {
        if (draw(40) == 0) {
            long[] odd = {0, 1, 27 + 32, 1 + 27 * 32, -1, 1 + (1L << 10), Long.MIN_VALUE + 33, 33L + (1L << 35), 31 * 33};
            return odd[draw(odd.length)];
        }
        long w = 0;
        int length = draw(3) > 0 ? draw(2, Math.min(side, 7)) : draw(2, 3);
        for (int i = 0; i < length; i++) {
            w |= (long) draw(1, letters) << 5 * i;
        }
        return w;
    }

    private long pattern() {
        long w = 0;
        int length = draw(2, Math.min(side, 7));
        for (int i = 0; i < length; i++) {
            w |= (long) (draw(3) > 0 ? 27 : draw(1, letters)) << 5 * i;
        }
        return draw(30) == 0 ? word() : w;
    }

    private int l() {
        return draw(30) == 0 ? draw(-2, 17) : m.count(0) == 0 ? 0 : draw(m.count(0));
    }

    private int steps() {
        int[] some = {1, 2, 3, 7, 20, 60, 5000, 5000};
        return draw(30) == 0 ? ODD[draw(ODD.length)] : some[draw(some.length)];
    }

    private void same(String call, long got, long want) {
        log.append(call).append(" = ").append(got).append('\n');
        if (want < 0 && want > -20) {
            SEEN[(int) -want]++;
        }
        check(call, got, want);
    }

    private void check(String call, long got, long want) {
        calls++;
        if (got != want && !wrong) {
            wrong = true;
            System.out.println(log);
            System.out.println(call + " answered " + got + ", due is " + want);
        }
    }

    private static String text(String name, long... args) {
        StringBuilder text = new StringBuilder(name).append('(');
        for (int i = 0; i < args.length; i++) {
            text.append(i == 0 ? "" : ", ").append(args[i]);
        }
        return text.append(')').toString();
    }

    private void gridCall() {
        int g = g();
        int r = place();
        int c = place();
        boolean on = coin();
        switch (draw(8)) {
            case 0: {
                int h = draw(6) == 0 ? draw(-2, 8) : near(side + 1);
                int w = draw(6) == 0 ? draw(-2, 8) : near(side + 1);
                if (draw(3) == 0) {
                    same(text("grid", g, h, w), x.grid(g, h, w), m.grid(g, h, w));
                }
                break;
            }
            case 1: {
                int n = draw(-2, side);
                if (draw(4) == 0) {
                    same(text("cut", g, r, n), x.cut(g, r, n), m.cut(g, r, n));
                }
                break;
            }
            case 2:
            case 3: {
                int v = draw(20) == 0 ? draw(-2, 30) : draw(0, letters);
                if (coin()) {
                    v = 0;
                }
                same(text("letter", g, r, c, v), x.letter(g, r, c, v), m.letter(g, r, c, v));
                break;
            }
            case 4:
                on = draw(3) > 0;
                same(text("black", g, r, c, on ? 1 : 0), x.black(g, r, c, on), m.black(g, r, c, on));
                break;
            case 5: {
                boolean below = coin();
                same(text("bar", g, r, c, below ? 1 : 0, on ? 1 : 0), x.bar(g, r, c, below, on), m.bar(g, r, c, below, on));
                break;
            }
            default:
                same(text("at", g, r, c), x.at(g, r, c), m.at(g, r, c));
        }
    }

    private void listCall() {
        int l = l();
        long w = word();
        switch (draw(14)) {
            case 0: {
                int kind = draw(-1, 5);
                int a = l();
                long p = pattern();
                if (draw(2) == 0) {
                    same(text("list", kind, a, l, p), x.list(kind, a, l, p), m.list(kind, a, l, p));
                }
                break;
            }
            case 1:
                if (draw(6) == 0) {
                    same(text("drop", l), x.drop(l), m.drop(l));
                }
                break;
            case 2: {
                int act = draw(-1, 5);
                same(text("ask", l, act, w), x.ask(l, act, w), m.ask(l, act, w));
                break;
            }
            case 3: {
                int k = near(10);
                same(text("wordOf", l, k), x.wordOf(l, k), m.wordOf(l, k));
                break;
            }
            case 4: {
                int g = g();
                boolean down = coin();
                int u = draw(10) == 0 ? -1 : l;
                same(text("uses", g, down ? 1 : 0, u), x.uses(g, down, u), m.uses(g, down, u));
                break;
            }
            default: {
                int score = draw(20) == 0 ? draw(-102, 102) : draw(-2, 2);
                same(text("word", l, w, score), x.word(l, w, score), m.word(l, w, score));
            }
        }
    }

    private void entryCall() {
        int g = g();
        int k = near(8);
        switch (draw(4)) {
            case 0:
                same(text("entries", g), x.entries(g), m.entries(g));
                break;
            case 1: {
                int what = draw(-1, 5);
                same(text("entry", g, k, what), x.entry(g, k, what), m.entry(g, k, what));
                break;
            }
            case 2:
                same(text("stands", g, k), x.stands(g, k), m.stands(g, k));
                break;
            default: {
                int b = near(8);
                same(text("crossing", g, k, b), x.crossing(g, k, b), m.crossing(g, k, b));
            }
        }
    }

    private void searchCall() {
        int g = g();
        int steps = steps();
        switch (draw(7)) {
            case 0:
            case 1: {
                int answer = m.fill(g, steps);
                filled += answer == 1 ? 1 : 0;
                same(text("fill", g, steps), x.fill(g, steps), answer);
                for (int i = 0; i < 3 && answer == -4; i++) {
                    steps = steps();
                    answer = m.goOn(steps);
                    goneOn += answer >= 0 ? 1 : 0;
                    same(text("goOn", steps), x.goOn(steps), answer);
                }
                break;
            }
            case 2:
                same(text("goOn", steps), x.goOn(steps), m.goOn(steps));
                break;
            case 3: {
                int k = draw(-1, 3);
                int e = near(8);
                same(text("first", k, e), x.first(k, e), m.first(k, e));
                break;
            }
            case 4: {
                int what = draw(-1, 4);
                same(text("searched", what), x.searched(what), m.searched(what));
                break;
            }
            default: {
                int most = draw(20) == 0 ? draw(0, 1001) : draw(1, 6);
                int answer = m.solve(g, most, steps);
                solvedMany += answer > 1 ? 1 : 0;
                same(text("solve", g, most, steps), x.solve(g, most, steps), answer);
            }
        }
    }

    private void shapeCall() {
        int g = g();
        switch (draw(6)) {
            case 0:
                same(text("turn", g), x.turn(g), m.turn(g));
                break;
            case 1:
                same(text("mirror", g), x.mirror(g), m.mirror(g));
                break;
            case 2: {
                int to = g();
                int r = place();
                int c = place();
                int s = place();
                int d = place();
                int h = near(side);
                int w = near(side);
                int answer = m.move(g, r, c, to, s, d, h, w);
                same(text("move", g, r, c, to, s, d, h, w), x.move(g, r, c, to, s, d, h, w), answer);
                break;
            }
            default: {
                int what = draw(-1, 11);
                same(text("judge", g, what), x.judge(g, what), m.judge(g, what));
            }
        }
    }

    /** Words and a grid to begin with, so that fillings are not too rare. */
    private void begin() {
        for (int i = 0; i < 3; i++) {
            int kind = draw(0, 1);
            same(text("list", kind, 0, 0, 0), x.list(kind, 0, 0, 0), m.list(kind, 0, 0, 0));
            for (int k = 0; k < 25; k++) {
                long w = word();
                int score = draw(-1, 1);
                same(text("word", i, w, score), x.word(i, w, score), m.word(i, w, score));
            }
        }
        for (int g = 0; g < grids; g++) {
            int h = draw(1, side);
            int w = draw(1, side);
            same(text("grid", g, h, w), x.grid(g, h, w), m.grid(g, h, w));
            for (int i = 0; i < 2; i++) {
                int l = draw(3);
                boolean down = i == 1;
                same(text("uses", g, i, l), x.uses(g, down, l), m.uses(g, down, l));
            }
        }
    }

    /** As many lists and words as nearly fill the desk, so that some call finds it FULL. */
    private void beginFull() {
        for (int i = 0; i < 17; i++) {
            int kind = i == 0 ? 0 : draw(0, 4);
            int a = Math.max(i - draw(1, 3), 0);
            int b = Math.max(i - draw(1, 3), 0);
            long p = pattern();
            same(text("list", kind, a, b, p), x.list(kind, a, b, p), m.list(kind, a, b, p));
        }
        for (int k = 0; k < 75; k++) {
            long w = draw(1, 8) | draw(1, 7) << 5;
            same(text("word", 0, w, 0), x.word(0, w, 0), m.word(0, w, 0));
        }
    }

    private void toldCall() {
        int i = draw(-1, 6);
        switch (draw(4)) {
            case 0:
                check(text("found", i), x.found(i), m.found(i));
                break;
            case 1:
                check(text("count", i), x.count(i), m.count(i));
                break;
            case 2:
                check(text("digest", i), x.digest(i), m.digest(i));
                break;
            default: {
                int n = draw(3) == 0 ? draw(-1, 101) : draw(8);
                check(text("trace", n), x.trace(n), m.trace(n));
            }
        }
        check("finding()", x.finding(), m.finding());
    }

    private void compareTold() {
        for (int i = -1; i < 7; i++) {
            check(text("found", i), x.found(i), m.found(i));
            check(text("count", i), x.count(i), m.count(i));
            check(text("digest", i), x.digest(i), m.digest(i));
        }
        check("finding()", x.finding(), m.finding());
    }

    private void compareTrace() {
        for (int i = -1; i < 102; i++) {
            check(text("trace", i), x.trace(i), m.trace(i));
        }
        check("finding()", x.finding(), m.finding());
    }

    private void compareSearches() {
        for (int i = 0; i < 4; i++) {
            check(text("searched", i), x.searched(i), m.searched(i));
        }
        for (int i = 0; i < 3 * 43; i++) {
            check(text("first", i / 43, i % 43), x.first(i / 43, i % 43), m.first(i / 43, i % 43));
        }
        check("moved()", x.moved(), m.moved());
        check("finding()", x.finding(), m.finding());
    }

    private void drawnCall() {
        int what = draw(20);
        if (what < 5) {
            gridCall();
        } else if (what < 10) {
            listCall();
        } else if (what < 13) {
            entryCall();
        } else if (what < 17) {
            searchCall();
        } else {
            shapeCall();
        }
        toldCall();
    }

    private boolean go() {
        int beginning = draw(8);
        if (beginning < 6) {
            begin();
        } else if (beginning == 6) {
            beginFull();
        }
        while (calls < MOST_CALLS - LAST_CALLS && !wrong) {
            drawnCall();
        }
        compareTold();
        if (coin()) {
            compareTrace();
        } else {
            compareSearches();
        }
        if (calls > MOST_CALLS) {
            System.out.println("the run has " + calls + " calls");
            wrong = true;
        }
        return !wrong;
    }

    public static void main(String[] args) {
        for (int run = 0; run < RUNS; run++) {
            if (!new ModelTests(run).go()) {
                System.out.println("run " + run + " is not as due");
                System.exit(1);
            }
        }
        int[] wanted = {1, 2, 3, 4, 5, 11, 12, 13, 14, 15};
        for (int kind : wanted) {
            if (SEEN[kind] < 100) {
                System.out.println("the answer -" + kind + " came only " + SEEN[kind] + " times");
                System.exit(1);
            }
        }
        if (goneOn < 100 || filled < 100 || solvedMany < 100) {
            System.out.println("too few fillings: " + goneOn + " gone on, " + filled + " filled, " + solvedMany + " solved");
            System.exit(1);
        }
        System.out.println(RUNS + " runs are as the model's");
    }
}
