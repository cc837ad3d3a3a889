/** Promises 28 to 32: the trace, findings, digests and counts. */
public final class ToldTests {
    private static final int BAD = WordGrid.BAD, NONE = WordGrid.NONE;
    private static final Due due = new Due();

    private static void trace() {
        due.promise(28, "trace");
        WordGrid x = new WordGrid();
        due.is("empty", x.trace(0), NONE);
        due.is("below 0", x.trace(-1), NONE);
        Due.words(x, 1, "AB");
        x.ask(0, 3, Due.w("AB"));
        x.ask(0, 1, 0);
        due.trace(x, 1, 3, 13, NONE);
        due.is("below 0", x.trace(-1), NONE);
        due.is("far below 0", x.trace(Integer.MIN_VALUE), NONE);
        for (int i = 0; i < 48; i++) {
            x.ask(0, 3, Due.w("AB"));
        }
        due.is("number 98", x.trace(98), 13);
        due.is("number 99, of 99", x.trace(98 + 1), NONE);
        x.ask(0, 1, 0);
        due.is("number 99", x.trace(99), 13);
        x.ask(0, 1, 0);
        due.is("number 99, the first is gone", x.trace(99), 3);
        due.is("number 100 is not kept", x.trace(100), NONE);
        due.is("bodies ever", x.count(4), 101);
        due.is("far beyond", x.trace(Integer.MAX_VALUE), NONE);
        for (int i = 0; i < 60; i++) {
            x.ask(0, 0, Due.w("AB"));
        }
        due.is("number 59", x.trace(59), 0);
        due.is("number 60", x.trace(60), 1);
        due.is("number 99", x.trace(99), 13);
        x.ask(9, 0, 0);
        due.is("BAD leaves it", x.trace(0), 0);
        x.drop(0);
        x.ask(0, 1, 0);
        due.is("no body of a dropped list", x.trace(0), 0);
    }

    /** Every call that tells a finding, without one: the finding before it is gone. */
    private static void calm(WordGrid x, int which) {
        switch (which) {
            case 0: x.grid(1, 1, 1); break;
            case 1: x.cut(0, 0, 3); break;
            case 2: x.letter(0, 0, 0, 1); break;
            case 3: x.black(0, 0, 0, false); break;
            case 4: x.bar(0, 0, 0, false, false); break;
            case 5: x.at(0, 0, 0); break;
            case 6: x.list(0, 0, 0, 0); break;
            case 7: x.drop(1); break;
            case 8: x.word(0, Due.w("AB"), 0); break;
            case 9: x.ask(0, 1, 0); break;
            case 10: x.wordOf(0, 0); break;
            case 11: x.uses(0, false, 0); break;
            case 12: x.entries(0); break;
            case 13: x.entry(0, 0, 0); break;
            case 14: x.stands(0, 0); break;
            case 15: x.crossing(0, 0, 1); break;
            case 16: x.fill(2, 1); break;
            case 17: x.goOn(1); break;
            case 18: x.solve(2, 1, 1); break;
            case 19: x.first(0, 0); break;
            case 20: x.searched(0); break;
            case 21: x.judge(0, 0); break;
            case 22: x.move(0, 0, 0, 0, 0, 0, 0, 0); break;
            case 23: x.moved(); break;
            case 24: x.turn(0); break;
            case 25: x.mirror(0); break;
            // refused calls, too
            case 26: x.grid(9, 1, 1); break;
            case 27: x.bar(0, 0, 2, false, true); break;
            case 28: x.wordOf(99, 0); break;
            case 29: x.searched(9); break;
            default: x.first(9, 9);
        }
    }

    private static void finding() {
        due.promise(29, "finding");
        WordGrid x = new WordGrid();
        due.is("at first", x.finding(), 0);
        Due.words(x, 0, "AB");
        Due.words(x, 0, "AB");
        x.grid(0, 3, 3);
        x.grid(2, 1, 1);
        for (int which = 0; which <= 30; which++) {
            x.at(0, 9, 9);
            due.is("a finding", x.finding(), 2);
            due.is("told twice", x.finding(), 2);
            calm(x, which);
            due.is("behind call " + which, x.finding(), 0);
        }
        x.grid(1, -1, 0);
        x.trace(0);
        x.trace(-1);
        x.found(1);
        x.found(9);
        x.digest(0);
        x.digest(9);
        x.digest(3);
        x.count(0);
        x.count(9);
        due.is("these leave it", x.finding(), 4);
        x.judge(2, 8);
        due.is("ZERO", x.finding(), 5);
        x.drop(0);
        x.drop(0);
        due.is("NOTHING", x.finding(), 1);
        x.list(3, 0, 0, Due.w("??"));
        x.word(x.count(0) - 1, Due.w("AB"), 0);
        due.is("SORT", x.finding(), 3);
    }

    private static void found() {
        due.promise(30, "found");
        WordGrid x = new WordGrid();
        due.is("BAD", x.found(0), BAD);
        due.is("BAD", x.found(6), BAD);
        due.is("BAD", x.found(-1), BAD);
        x.grid(0, 1, 1);
        x.list(0, 0, 0, 0);
        x.list(3, 0, 0, Due.w("??"));
        int[] times = {3, 4, 2, 5, 1};
        for (int i = 0; i < 5; i++) {
            for (int k = 0; k < times[i]; k++) {
                find(x, i + 1);
                due.is("finding", x.finding(), i + 1);
            }
        }
        for (int i = 0; i < 5; i++) {
            due.is("found " + (i + 1), x.found(i + 1), times[i]);
        }
        x.grid(9, 9, 9);
        x.goOn(1);
        for (int i = 0; i < 5; i++) {
            due.is("refused calls find nothing", x.found(i + 1), times[i]);
        }
    }

    private static void find(WordGrid x, int kind) {
        switch (kind) {
            case 1: x.entries(3); break;
            case 2: x.wordOf(0, 0); break;
            case 3: x.word(1, Due.w("AB"), 0); break;
            case 4: x.grid(0, -1, 1); break;
            default: x.judge(0, 8);
        }
    }

    private static void digest() {
        due.promise(31, "digest");
        WordGrid x = new WordGrid();
        due.is("BAD", x.digest(-1), 0);
        due.is("BAD", x.digest(4), 0);
        due.is("no grid", x.digest(0), 0);
        x.grid(0, 0, 7);
        due.is("no rows", x.digest(0), 7);
        x.grid(0, 2, 0);
        due.is("two rows of none", x.digest(0), (7 * 31) * 31);
        x.cut(0, 1, -1);
        due.is("a lacking row", x.digest(0), (7 * 31) * 31 - 1);
        Due.draw(x, 0, "AB", "#.");
        x.bar(0, 0, 0, false, true);
        x.bar(0, 0, 1, true, true);
        int[] row = {2, 1 + 32, 2 + 64, 2, 27, 0};
        long d = 7;
        for (int n : row) {
            d = 31 * d + n;
        }
        due.is("signs and bars", x.digest(0), d);
        x.cut(0, 1, 1);
        due.is("a cut row", x.digest(0), (((((7L * 31 + 2) * 31 + 33) * 31 + 66) * 31) + 1) * 31 + 27);
        Due.draw(x, 1, "ZZZZZZZ", "ZZZZZZZ", "ZZZZZZZ", "ZZZZZZZ", "ZZZZZZZ", "ZZZZZZZ", "ZZZZZZZ");
        d = 7;
        for (int r = 0; r < 7; r++) {
            d = 31 * d + 7;
            for (int c = 0; c < 7; c++) {
                d = 31 * d + 26;
            }
        }
        due.is("longs that wrap", x.digest(1), d);
    }

    private static void count() {
        due.promise(32, "count");
        WordGrid x = new WordGrid();
        due.is("BAD", x.count(-1), BAD);
        due.is("BAD", x.count(5), BAD);
        Due.words(x, 0, "AB", "AA");
        x.list(4, 0, 0, 0);
        x.list(2, 0, 0, 0);
        x.list(9, 0, 0, 0);
        due.is("made", x.count(0), 3);
        due.is("there", x.count(1), 3);
        x.drop(1);
        x.drop(1);
        due.is("made", x.count(0), 3);
        due.is("there", x.count(1), 2);
        x.grid(3, 1, 2);
        x.grid(3, 1, 2);
        x.grid(1, 0, 0);
        x.grid(2, -1, 0);
        due.is("grids", x.count(2), 2);
        x.uses(3, false, 0);
        due.is("no steps", x.count(3), 0);
        x.solve(3, 9, 9);
        x.fill(3, 1);
        due.is("steps", x.count(3), 3);
        due.is("bodies", x.count(4), 10);
        x.fill(0, 1);
        x.ask(1, 1, 0);
        due.is("steps of findings", x.count(3), 3);
        due.is("bodies of findings", x.count(4), 10);
    }

    public static void main(String[] args) {
        trace();
        finding();
        found();
        digest();
        count();
        due.end("ToldTests");
    }
}
