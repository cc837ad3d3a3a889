/** Promises 18 to 22: searching for fillings, going on, what a search tells. */
public final class FillingTests {
    private static final int BAD = WordGrid.BAD, STATE = WordGrid.STATE, SPENT = WordGrid.SPENT, NONE = WordGrid.NONE;
    private static final int NOTHING = -11;
    private static final Due due = new Due();

    private static long w(String text) {
        return Due.w(text);
    }

    private static void searched(WordGrid x, int steps, int fillings, int entries, int candidates) {
        due.is("searched(0)", x.searched(0), steps);
        due.is("searched(1)", x.searched(1), fillings);
        due.is("searched(2)", x.searched(2), entries);
        due.is("searched(3)", x.searched(3), candidates);
    }

    /** A grid 0 of two entries that do not cross, for words AA and AB: the first filling is at step 3, all end at 6. */
    private static WordGrid apart() {
        WordGrid x = new WordGrid();
        Due.words(x, 0, "AB", "AA");
        Due.draw(x, 0, "..", "##", "..");
        x.uses(0, false, 0);
        return x;
    }

    /** A grid 0 of 2 by 2 for AB, CD across and AC, BD down: the first filling is at step 6. */
    private static WordGrid crossed() {
        WordGrid x = new WordGrid();
        Due.words(x, 0, "CD", "AB");
        Due.words(x, 0, "BD", "AC");
        x.grid(0, 2, 2);
        x.uses(0, false, 0);
        x.uses(0, true, 1);
        return x;
    }

    private static void fill() {
        due.promise(18, "fill");
        WordGrid x = crossed();
        long empty = x.digest(0);
        due.is("BAD grid", x.fill(4, 10), BAD);
        due.is("BAD grid", x.fill(-1, 10), BAD);
        due.is("BAD steps", x.fill(0, 0), BAD);
        due.is("BAD steps", x.fill(0, 5001), BAD);
        due.is("BAD steps", x.fill(1, Integer.MIN_VALUE), BAD);
        due.is("no grid", x.fill(1, 10), NOTHING);
        due.is("no body, no step", x.count(3) + x.count(4), 0);
        due.is("one step too few", x.fill(0, 5), SPENT);
        searched(x, 5, 0, 4, 8);
        due.is("finding of SPENT", x.finding(), 0);
        due.is("letters as before", x.digest(0), empty);
        due.is("steps enough", x.fill(0, 6), 1);
        searched(x, 6, 1, 4, 8);
        due.is("row 0", x.stands(0, 0), w("AB"));
        due.is("row 1", x.stands(0, 3), w("CD"));
        due.is("place 0", x.stands(0, 1), w("AC"));
        due.is("place 1", x.stands(0, 2), w("BD"));
        due.is("filled already: one candidate each", x.fill(0, 4), 1);
        searched(x, 4, 1, 4, 4);
        due.is("steps ever", x.count(3), 5 + 6 + 4);
        x.letter(0, 1, 1, 26);
        due.is("a letter that fits none", x.fill(0, 5000), 0);
        searched(x, 0, 0, 4, 2);
        x.grid(0, 1, 1);
        due.is("no entries", x.fill(0, 1), 1);
        searched(x, 0, 1, 0, 0);
    }

    private static void fillOrder() {
        due.promise(18, "fill, in order");
        WordGrid x = new WordGrid();
        x.list(1, 0, 0, 0);
        x.word(0, w("BA"), 1);
        x.word(0, w("AC"), 0);
        x.word(0, w("ABC"), 9);
        x.word(0, w("AB"), 0);
        x.word(0, w("CA"), -1);
        x.grid(0, 1, 2);
        x.uses(0, false, 0);
        x.solve(0, 10, 10);
        due.is("the greatest score", x.first(0, 0), w("BA"));
        due.is("then as they are before", x.first(1, 0), w("AB"));
        due.is("then as they are before", x.first(2, 0), w("AC"));
        searched(x, 4, 4, 1, 4);
        due.trace(x, 3, 13, 2, 3, 13, 2, 2, 3, 13, 2, 3, 13, 2, 1, NONE);
        Due.draw(x, 1, "..", "##", "B.");
        x.uses(1, false, 0);
        due.is("fewest candidates first", x.fill(1, 3), 1);
        searched(x, 3, 1, 2, 5);
        due.is("no word twice", x.stands(1, 0), w("AB"));
        due.is("the letter that stood", x.stands(1, 1), w("BA"));
        Due.draw(x, 2, "BA", "##", "BA");
        x.uses(2, false, 0);
        due.is("a word that stands twice", x.fill(2, 10), 0);
        searched(x, 2, 0, 2, 2);
        firstPlace();
        barsAndLoners();
    }

    /** Letters are compared from the first one on, not as the numbers that words are told by. */
    private static void firstPlace() {
        WordGrid x = new WordGrid();
        Due.words(x, 0, "BAAAAAA", "AZZZZZZ", "ABAAAAA");
        x.grid(0, 7, 1);
        x.uses(0, true, 0);
        due.is("three", x.solve(0, 10, 10), 3);
        due.is("first", x.first(0, 0), w("ABAAAAA"));
        due.is("second", x.first(1, 0), w("AZZZZZZ"));
        due.is("third", x.first(2, 0), w("BAAAAAA"));
    }

    private static void barsAndLoners() {
        WordGrid x = new WordGrid();
        Due.words(x, 0, "AB");
        Due.draw(x, 0, "..#C");
        x.grid(1, 2, 4);
        x.bar(1, 0, 0, true, true);
        x.move(0, 0, 0, 1, 0, 0, 1, 4);
        x.bar(1, 0, 0, true, true);
        x.cut(1, 1, 0);
        x.uses(1, false, 0);
        due.is("fill", x.fill(1, 1), 1);
        due.is("a letter beside a bar", x.at(1, 0, 0), 1 + 64);
        due.is("a letter", x.at(1, 0, 1), 2);
        due.is("black", x.at(1, 0, 2), 27);
        due.is("what is in no entry", x.at(1, 0, 3), 3);
    }

    /** Seven letters from a first one on, so many apart. */
    private static String spaced(int first, int apart) {
        StringBuilder text = new StringBuilder();
        for (int i = 0; i < 7; i++) {
            text.append((char) ('A' + first + apart * i));
        }
        return text.toString();
    }

    private static void whole() {
        due.promise(18, "fill, 7 by 7");
        WordGrid x = new WordGrid();
        x.list(0, 0, 0, 0);
        x.list(0, 0, 0, 0);
        for (int i = 6; i >= 0; i--) {
            x.word(0, w(spaced(i, 2)), 0);
            x.word(1, w(spaced(2 * i, 1)), 0);
        }
        x.grid(0, 7, 7);
        x.uses(0, false, 0);
        x.uses(0, true, 1);
        // Row 0 at its first look, places 0 to 6 at looks 1 to 7, rows 1 to 6 at looks 2 to 7.
        due.is("one step too few", x.fill(0, 1 + 28 + 26), SPENT);
        due.is("the last one", x.goOn(1), 1);
        searched(x, 1, 1, 14, 98);
        for (int r = 0; r < 7; r++) {
            for (int c = 0; c < 7; c++) {
                due.is("a letter", x.at(0, r, c), 1 + r + 2 * c);
            }
        }
    }

    private static void fillFindings() {
        due.promise(18, "fill, findings");
        WordGrid x = new WordGrid();
        x.grid(0, 2, 2);
        due.is("no list is told", x.fill(0, 10), NOTHING);
        due.is("finding", x.finding(), 1);
        Due.words(x, 0, "AB", "CD");
        Due.words(x, 2, "AB");
        x.list(4, 0, 1, 0);
        x.uses(0, false, 0);
        due.is("none down", x.fill(0, 10), NOTHING);
        due.trace(x, 3, 2, 3, 2, 1, NONE);
        x.uses(0, true, 2);
        x.drop(1);
        int bodies = x.count(4);
        due.is("b was dropped", x.fill(0, 10), NOTHING);
        due.trace(x, 2, 42, 1, 41, 3, 2);
        due.is("bodies", x.count(4) - bodies, 9);
        x.drop(0);
        due.is("dropped", x.fill(0, 10), NOTHING);
        due.is("no body", x.count(4) - bodies, 9);
        due.is("found", x.found(1), 4);
        due.is("no steps", x.count(3), 0);
        searched(x, 0, 0, 0, 0);
        due.is("letters as before", x.digest(0), 6269785991L);
        x.cut(0, 0, -1);
        x.cut(0, 1, 1);
        due.is("no entries, no list is wanted", x.fill(0, 1), 1);
    }

    private static void goOn() {
        due.promise(19, "goOn");
        WordGrid x = crossed();
        due.is("BAD", x.goOn(0), BAD);
        due.is("BAD", x.goOn(5001), BAD);
        due.is("before any fill", x.goOn(1), STATE);
        x.fill(0, 1);
        int bodies = x.count(4);
        due.is("one more", x.goOn(1), SPENT);
        searched(x, 1, 0, 4, 8);
        due.is("BAD between", x.goOn(0), BAD);
        due.is("BAD between", x.fill(0, 0), BAD);
        due.is("BAD between", x.fill(9, 1), BAD);
        due.is("three more", x.goOn(3), SPENT);
        searched(x, 3, 0, 4, 8);
        due.is("letters as before", x.digest(0), 6269785991L);
        due.is("solve between", x.solve(0, 5, 3), SPENT);
        due.is("the last one", x.goOn(5000), 1);
        searched(x, 1, 1, 4, 8);
        due.is("it stands", x.stands(0, 0), w("AB"));
        due.is("it stands", x.stands(0, 2), w("BD"));
        due.is("no body but solve's", x.count(4) - bodies, 4 + 8 * 2);
        due.is("behind a filling", x.goOn(1), STATE);
        due.is("finding", x.finding(), 0);
        due.is("steps ever", x.count(3), 1 + 1 + 3 + 3 + 1);
        x.letter(0, 0, 0, 0);
        x.fill(0, 5000);
        due.is("behind a fill that was not SPENT", x.goOn(1), STATE);
        goOnToNone();
    }

    private static void goOnToNone() {
        WordGrid x = apart();
        x.word(0, w("AC"), 0);
        x.letter(0, 0, 0, 26);
        x.letter(0, 0, 0, 0);
        Due.draw(x, 0, "AA", "##", "AA");
        x.uses(0, false, 0);
        due.is("spent", x.fill(0, 1), SPENT);
        due.is("none", x.goOn(1), 0);
        searched(x, 1, 0, 2, 2);
        due.is("behind none", x.goOn(1), STATE);
        due.is("spent", x.fill(0, 1), SPENT);
        due.is("a fill with a finding is the latest", x.fill(1, 1), NOTHING);
        due.is("and was not SPENT", x.goOn(1), STATE);
        due.is("spent", x.fill(0, 1), SPENT);
        due.is("a solve with a finding", x.solve(1, 1, 1), NOTHING);
        due.is("does not matter", x.goOn(1), 0);
    }

    /** Calls that end a searching, if they are neither refused nor have a finding, also where all is as before. */
    private static int change(WordGrid x, int which) {
        switch (which) {
            case 0: return x.grid(3, 1, 1);
            case 1: return x.cut(0, 0, 2);
            case 2: return x.letter(0, 0, 0, 0);
            case 3: return x.black(0, 1, 0, true);
            case 4: return x.bar(0, 0, 0, false, false);
            case 5: return x.list(0, 0, 0, 0);
            case 6: return x.drop(1);
            case 7: return x.word(0, w("AA"), 0);
            case 8: return x.uses(0, true, -1);
            case 9: return x.move(0, 0, 0, 0, 0, 0, 0, 0);
            case 10: return x.turn(2);
            case 11: return x.mirror(2);
            case 12: return x.move(1, 0, 0, 1, 0, 0, 1, 1);
            default: return x.black(0, 0, 0, false);
        }
    }

    /** Calls that leave a searching alone: they only look, are refused, or have a finding. */
    private static int noChange(WordGrid x, int which) {
        switch (which) {
            case 0: return x.grid(3, 8, 1);
            case 1: return x.grid(3, -1, 1);
            case 2: return x.cut(0, 0, 3);
            case 3: return x.cut(0, 0, -2);
            case 4: return x.letter(0, 1, 0, 1);
            case 5: return x.letter(0, 0, 9, 1);
            case 6: return x.black(0, 9, 0, true);
            case 7: return x.bar(0, 0, 1, false, true);
            case 8: return x.list(9, 0, 0, 0);
            case 9: return x.drop(9);
            case 10: return x.word(0, 0, 0);
            case 11: return x.uses(0, true, 9);
            case 12: return x.uses(1, true, 0);
            case 13: return x.move(0, 0, 0, 0, 0, 0, 8, 0);
            case 14: return x.turn(1);
            case 15: return x.mirror(4);
            case 16: return x.at(0, 0, 0);
            case 17: return x.ask(0, 1, 0);
            case 18: return x.entries(0);
            case 19: return x.judge(0, 4);
            case 20: return x.moved();
            case 21: return x.solve(0, 1, 5000);
            case 22: return x.searched(0);
            default: return (int) (x.wordOf(0, 0) + x.stands(0, 0) + x.first(0, 0) + x.digest(0) + x.trace(0));
        }
    }

    private static void goOnAndChanges() {
        due.promise(19, "goOn, behind changes");
        for (int which = 0; which <= 13; which++) {
            WordGrid x = apart();
            x.list(0, 0, 0, 0);
            x.grid(2, 1, 1);
            x.fill(0, 2);
            change(x, which);
            due.is("behind change " + which, x.goOn(1), STATE);
            due.is("and again", x.goOn(1), STATE);
        }
        for (int which = 0; which <= 23; which++) {
            WordGrid x = apart();
            x.fill(0, 2);
            noChange(x, which);
            due.is("behind no change " + which, x.goOn(1), 1);
        }
        WordGrid x = apart();
        for (int i = x.count(0); i < 16; i++) {
            x.list(0, 0, 0, 0);
        }
        x.fill(0, 2);
        due.is("FULL", x.list(0, 0, 0, 0), WordGrid.FULL);
        due.is("behind FULL", x.goOn(1), 1);
    }

    private static void solve() {
        due.promise(20, "solve");
        WordGrid x = apart();
        long before = x.digest(0);
        int[] bad = {0, 1001, -1, Integer.MAX_VALUE};
        for (int most : bad) {
            due.is("BAD most", x.solve(0, most, 1), BAD);
        }
        due.is("BAD steps", x.solve(0, 1, 0), BAD);
        due.is("BAD steps", x.solve(0, 1, 5001), BAD);
        due.is("BAD grid", x.solve(4, 1, 1), BAD);
        due.is("no grid", x.solve(1, 1, 1), NOTHING);
        due.is("no body, no step", x.count(3) + x.count(4), 0);
        due.is("all", x.solve(0, 1000, 5000), 2);
        searched(x, 6, 2, 2, 4);
        due.is("all with as many steps", x.solve(0, 3, 6), 2);
        due.is("one fewer", x.solve(0, 3, 5), SPENT);
        searched(x, 5, 2, 2, 4);
        due.is("two are enough", x.solve(0, 2, 5), 2);
        searched(x, 5, 2, 2, 4);
        due.is("spent behind the first", x.solve(0, 2, 3), SPENT);
        searched(x, 3, 1, 2, 4);
        due.is("the first is enough", x.solve(0, 1, 3), 1);
        searched(x, 3, 1, 2, 4);
        due.is("letters as before", x.digest(0), before);
        due.is("steps ever", x.count(3), 6 + 6 + 5 + 5 + 3 + 3);
        x.uses(0, false, -1);
        due.is("no list is told", x.solve(0, 1, 3), NOTHING);
        x.grid(0, 1, 1);
        due.is("no entries: one filling", x.solve(0, 1000, 1), 1);
        searched(x, 0, 1, 0, 0);
        solveMany();
    }

    private static void solveMany() {
        WordGrid x = new WordGrid();
        x.list(0, 0, 0, 0);
        for (int i = 0; i < 40; i++) {
            x.word(0, w("" + (char) ('A' + i % 26) + (char) ('A' + i / 26)), 0);
        }
        Due.draw(x, 0, "..", "##", "..");
        x.uses(0, false, 0);
        due.is("1000 of 1560", x.solve(0, 1000, 5000), 1000);
        due.is("999", x.solve(0, 999, 5000), 999);
        searched(x, 1050, 999, 2, 80);
        due.is("the third", x.first(2, 1), w("BB"));
    }

    private static void first() {
        due.promise(21, "first");
        WordGrid x = apart();
        x.solve(0, 5, 5000);
        due.is("filling 0, entry 0", x.first(0, 0), w("AA"));
        due.is("filling 0, entry 1", x.first(0, 1), w("AB"));
        due.is("filling 1, entry 0", x.first(1, 0), w("AB"));
        due.is("filling 1, entry 1", x.first(1, 1), w("AA"));
        due.is("no filling 2", x.first(2, 0), 0);
        due.is("no entry 2", x.first(0, 2), 0);
        due.is("no entry -1", x.first(1, -1), 0);
        due.is("no filling -1", x.first(-1, 0), 0);
        due.is("no entry MAX", x.first(0, Integer.MAX_VALUE), 0);
        x.solve(1, 1, 1);
        due.is("finding ahead of it", x.finding(), 1);
        due.is("behind a finding", x.first(1, 1), w("AA"));
        due.is("its finding", x.finding(), 0);
        x.solve(0, 0, 1);
        due.is("behind BAD", x.first(1, 1), w("AA"));
        x.fill(0, 5000);
        due.is("behind a fill", x.first(1, 1), w("AA"));
        x.grid(0, 1, 1);
        due.is("behind changes", x.first(1, 1), w("AA"));
        x.solve(0, 1, 1);
        due.is("of no entries", x.first(0, 0), 0);
        firstOfSpent();
    }

    private static void firstOfSpent() {
        WordGrid x = apart();
        x.word(0, w("AC"), 0);
        due.is("spent", x.solve(0, 9, 4), SPENT);
        due.is("filling 0", x.first(0, 1), w("AB"));
        due.is("filling 1", x.first(1, 1), w("AC"));
        due.is("all six", x.solve(0, 9, 5000), 6);
        due.is("filling 2", x.first(2, 0), w("AB"));
        due.is("filling 3 is not told", x.first(3, 0), 0);
        Due.draw(x, 0, "Z.", "##", "..");
        x.uses(0, false, 0);
        due.is("none", x.solve(0, 9, 5000), 0);
        due.is("of none", x.first(0, 0), 0);
        order();
    }

    /** What is told is by the entries' own order, not by that in which they were taken. */
    private static void order() {
        WordGrid x = apart();
        Due.draw(x, 0, "..", "##", ".B");
        x.uses(0, false, 0);
        due.is("one", x.solve(0, 9, 5000), 1);
        searched(x, 3, 1, 2, 3);
        due.is("entry 0", x.first(0, 0), w("AA"));
        due.is("entry 1", x.first(0, 1), w("AB"));
    }

    private static void searchedAlone() {
        due.promise(22, "searched");
        WordGrid x = apart();
        searched(x, 0, 0, 0, 0);
        due.is("BAD", x.searched(-1), BAD);
        due.is("BAD", x.searched(4), BAD);
        x.solve(0, 9, 5);
        searched(x, 5, 2, 2, 4);
        x.goOn(1);
        x.fill(0, 0);
        x.fill(1, 1);
        due.is("finding", x.finding(), 1);
        searched(x, 5, 2, 2, 4);
        due.is("its finding", x.finding(), 0);
        x.solve(1, 1, 1);
        x.solve(0, 0, 1);
        searched(x, 5, 2, 2, 4);
        x.fill(0, 2);
        searched(x, 2, 0, 2, 4);
        x.goOn(9);
        searched(x, 1, 1, 2, 4);
        x.fill(1, 1);
        due.is("BAD behind a finding", x.searched(9), BAD);
        due.is("its finding", x.finding(), 0);
    }

    public static void main(String[] args) {
        fill();
        fillOrder();
        whole();
        fillFindings();
        goOn();
        goOnAndChanges();
        solve();
        first();
        searchedAlone();
        due.end("FillingTests");
    }
}
