/** A WordGrid whose calls are written down, and counted: behind the 512th call nothing is promised. */
final class Desk {
    private static final int MOST_CALLS = 512;
    private final WordGrid x = new WordGrid();
    private final Sentences said;
    private final StringBuilder log = new StringBuilder();
    private int calls;

    Desk(Sentences said) {
        this.said = said;
    }

    String log() {
        return log.toString();
    }

    private long told(String name, long answer, Object... args) {
        log.append(name).append('(');
        for (int i = 0; i < args.length; i++) {
            log.append(i == 0 ? "" : ", ").append(args[i]);
        }
        log.append(") = ").append(answer).append('\n');
        calls++;
        if (calls > MOST_CALLS) {
            throw new IllegalStateException("a test makes more calls than an object is promised for:\n" + log);
        }
        said.called(this);
        return answer;
    }

    int grid(int g, int h, int w) {
        return (int) told("grid", x.grid(g, h, w), g, h, w);
    }

    int cut(int g, int r, int n) {
        return (int) told("cut", x.cut(g, r, n), g, r, n);
    }

    int letter(int g, int r, int c, int v) {
        return (int) told("letter", x.letter(g, r, c, v), g, r, c, v);
    }

    int black(int g, int r, int c, boolean on) {
        return (int) told("black", x.black(g, r, c, on), g, r, c, on);
    }

    int bar(int g, int r, int c, boolean below, boolean on) {
        return (int) told("bar", x.bar(g, r, c, below, on), g, r, c, below, on);
    }

    int at(int g, int r, int c) {
        return (int) told("at", x.at(g, r, c), g, r, c);
    }

    int list(int kind, int a, int b, long p) {
        return (int) told("list", x.list(kind, a, b, p), kind, a, b, p);
    }

    int drop(int l) {
        return (int) told("drop", x.drop(l), l);
    }

    int word(int l, long w, int score) {
        return (int) told("word", x.word(l, w, score), l, w, score);
    }

    int ask(int l, int act, long w) {
        return (int) told("ask", x.ask(l, act, w), l, act, w);
    }

    long wordOf(int l, int k) {
        return told("wordOf", x.wordOf(l, k), l, k);
    }

    int uses(int g, boolean down, int l) {
        return (int) told("uses", x.uses(g, down, l), g, down, l);
    }

    int entries(int g) {
        return (int) told("entries", x.entries(g), g);
    }

    int entry(int g, int k, int what) {
        return (int) told("entry", x.entry(g, k, what), g, k, what);
    }

    long stands(int g, int k) {
        return told("stands", x.stands(g, k), g, k);
    }

    int crossing(int g, int a, int b) {
        return (int) told("crossing", x.crossing(g, a, b), g, a, b);
    }

    int fill(int g, int steps) {
        return (int) told("fill", x.fill(g, steps), g, steps);
    }

    int goOn(int steps) {
        return (int) told("goOn", x.goOn(steps), steps);
    }

    int solve(int g, int most, int steps) {
        return (int) told("solve", x.solve(g, most, steps), g, most, steps);
    }

    long first(int k, int e) {
        return told("first", x.first(k, e), k, e);
    }

    int searched(int what) {
        return (int) told("searched", x.searched(what), what);
    }

    int judge(int g, int what) {
        return (int) told("judge", x.judge(g, what), g, what);
    }

    int move(int g, int r, int c, int to, int s, int d, int h, int w) {
        return (int) told("move", x.move(g, r, c, to, s, d, h, w), g, r, c, to, s, d, h, w);
    }

    int moved() {
        return (int) told("moved", x.moved());
    }

    int turn(int g) {
        return (int) told("turn", x.turn(g), g);
    }

    int mirror(int g) {
        return (int) told("mirror", x.mirror(g), g);
    }

    int trace(int i) {
        return (int) told("trace", x.trace(i), i);
    }

    int finding() {
        return (int) told("finding", x.finding());
    }

    int found(int kind) {
        return (int) told("found", x.found(kind), kind);
    }

    long digest(int g) {
        return told("digest", x.digest(g), g);
    }

    int count(int what) {
        return (int) told("count", x.count(what), what);
    }

    /** A new grid by its rows: '.' no sign, '#' black, or a letter. */
    void draw(int g, String... rows) {
        grid(g, rows.length, rows.length == 0 ? 0 : rows[0].length());
        for (int r = 0; r < rows.length; r++) {
            for (int c = 0; c < rows[r].length(); c++) {
                char sign = rows[r].charAt(c);
                if (sign == '#') {
                    black(g, r, c, true);
                } else if (sign != '.') {
                    letter(g, r, c, sign - 'A' + 1);
                }
            }
        }
    }

    /** A new list of words: its number. */
    int words(int kind, String... words) {
        int l = list(kind, 0, 0, 0);
        for (String word : words) {
            word(l, Due.w(word), 0);
        }
        return l;
    }
}
