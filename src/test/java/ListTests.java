/** Promises 8 to 13: lists, their kinds, acts and bodies. */
public final class ListTests {
    private static final int BAD = WordGrid.BAD, FULL = WordGrid.FULL, NONE = WordGrid.NONE;
    private static final int NOTHING = -11, SORT = -13;
    private static final Due due = new Due();

    private static long w(String text) {
        return Due.w(text);
    }

    private static void list() {
        due.promise(8, "list");
        WordGrid x = new WordGrid();
        due.is("kind -1", x.list(-1, 0, 0, 0), BAD);
        due.is("kind 5", x.list(5, 0, 0, 0), BAD);
        due.is("a pattern of no list", x.list(3, 0, 0, w("??")), BAD);
        due.is("joined of no lists", x.list(4, 0, 0, 0), BAD);
        due.is("plain, the rest is free", x.list(0, -9, 99, -1), 0);
        due.is("scored", x.list(1, -9, 99, -1), 1);
        due.is("banned", x.list(2, -9, 99, -1), 2);
        due.is("a pattern's a", x.list(3, 3, 0, w("??")), BAD);
        due.is("a pattern's a", x.list(3, -1, 0, w("??")), BAD);
        due.is("joined's a", x.list(4, 3, 0, 0), BAD);
        due.is("joined's b", x.list(4, 0, 3, 0), BAD);
        due.is("joined's b", x.list(4, 0, -1, 0), BAD);
        patterns(x);
        due.is("a pattern, b is free", x.list(3, 0, 77, w("A?")), 3);
        due.is("joined, p is free", x.list(4, 3, 3, -5), 4);
        x.drop(0);
        due.is("of one that was dropped", x.list(3, 0, 0, w("???????")), 5);
        due.is("made", x.count(0), 6);
        due.is("those there", x.count(1), 5);
        for (int l = 6; l < 16; l++) {
            due.is("one more", x.list(0, 0, 0, 0), l);
        }
        due.is("those there, of 16", x.count(1), 15);
        due.is("17th", x.list(0, 0, 0, 0), FULL);
        due.is("BAD ahead of FULL", x.list(9, 0, 0, 0), BAD);
        x.drop(1);
        due.is("one dropped makes no room", x.list(0, 0, 0, 0), FULL);
        due.is("finding", x.finding(), 0);
    }

    private static void patterns(WordGrid x) {
        long[] bad = {0, w("A"), w("?"), w("AAAAAAAA"), w("A") | 28 << 5, w("A") | 1 << 10, -1, 1L << 5,
            w("AAAAAAA") | 1L << 40, w("AB") | Long.MIN_VALUE};
        for (long p : bad) {
            due.is("pattern " + p, x.list(3, 0, 0, p), BAD);
        }
    }

    private static void weights() {
        due.promise(8, "list, by weight");
        WordGrid x = new WordGrid();
        x.list(0, 0, 0, 0);
        due.is("weight 3", x.list(4, 0, 0, 0), 1);
        due.is("weight 7", x.list(4, 1, 1, 0), 2);
        due.is("weight 15", x.list(4, 2, 2, 0), 3);
        due.is("weight 31", x.list(4, 3, 3, 0), FULL);
        due.is("weight 8", x.list(3, 2, 0, w("??")), 4);
        due.is("weight 24", x.list(4, 3, 4, 0), 5);
        due.is("weight 32", x.list(4, 5, 2, 0), FULL);
        due.is("weight 28", x.list(4, 5, 1, 0), 6);
        due.is("weight 29", x.list(3, 6, 0, w("??")), 7);
        due.is("weight 30", x.list(3, 7, 0, w("??")), 8);
        due.is("weight 31", x.list(3, 8, 0, w("??")), FULL);
        due.is("weight 31 of joined", x.list(4, 7, 0, 0), FULL);
        x.drop(8);
        due.is("weight of one that was dropped", x.list(3, 8, 0, w("??")), FULL);
        due.is("made", x.count(0), 9);
        x.word(0, w("AB"), 0);
        int bodies = x.count(4);
        due.is("the heaviest, asked", x.ask(7, 3, w("AB")), 2);
        due.is("its bodies", x.count(4) - bodies, 29);
    }

    private static void drop() {
        due.promise(9, "drop");
        WordGrid x = new WordGrid();
        due.is("no such number", x.drop(0), BAD);
        x.list(0, 0, 0, 0);
        due.is("no such number", x.drop(-1), BAD);
        due.is("no such number", x.drop(1), BAD);
        due.is("drop", x.drop(0), 1);
        due.is("again", x.drop(0), NOTHING);
        due.is("finding", x.finding(), 1);
        due.is("made", x.count(0), 1);
        due.is("there", x.count(1), 0);
        due.is("its number stays", x.list(0, 0, 0, 0), 1);
    }

    private static void word() {
        due.promise(10, "word");
        WordGrid x = new WordGrid();
        for (int kind = 0; kind < 5; kind++) {
            x.list(kind, 0, 0, w("??"));
        }
        long[] bad = {0, w("A"), w("AAAAAAAA"), w("A?"), w("?A"), w("A") | 31 << 5, w("A") | 1 << 10, -1,
            w("AB") | Long.MIN_VALUE};
        for (long word : bad) {
            due.is("no word " + word, x.word(0, word, 0), BAD);
        }
        due.is("no such list", x.word(5, w("AB"), 0), BAD);
        due.is("no such list", x.word(-1, w("AB"), 0), BAD);
        due.is("score 101", x.word(0, w("AB"), 101), BAD);
        due.is("score -101", x.word(0, w("AB"), -101), BAD);
        due.is("of a pattern", x.word(3, w("AB"), 0), SORT);
        due.is("finding", x.finding(), 3);
        due.is("of joined", x.word(4, w("AB"), 0), SORT);
        due.is("BAD ahead of SORT", x.word(4, w("AB"), 101), BAD);
        due.is("first", x.word(0, w("ZZZZZZZ"), 100), 1);
        due.is("second", x.word(0, w("AA"), -100), 2);
        due.is("again", x.word(0, w("ZZZZZZZ"), 0), 2);
        due.is("banned, too", x.word(2, w("AB"), 0), 1);
        due.is("banned has two, though MANY is 0", x.word(2, w("AC"), 0), 2);
        due.is("no body began", x.count(4), 0);
        scores(x);
        x.drop(3);
        due.is("NOTHING ahead of SORT", x.word(3, w("AB"), 0), NOTHING);
    }

    private static void scores(WordGrid x) {
        due.is("scored", x.word(1, w("AB"), 7), 1);
        due.is("its number", x.ask(1, 3, w("AB")), 7);
        due.is("another", x.word(1, w("AB"), -9), 1);
        due.is("its number then", x.ask(1, 3, w("AB")), -9);
        int n = 1;
        for (char a = 'A'; a <= 'Z' && n < 40; a++) {
            for (char b = 'C'; b <= 'D' && n < 40; b++) {
                n++;
                due.is("more", x.word(1, w("" + a + b), n), n);
            }
        }
        due.is("41st", x.word(1, w("ZZ"), 0), FULL);
        due.is("finding", x.finding(), 0);
        due.is("never FULL for one that is there", x.word(1, w("AB"), 50), 40);
        due.is("its number of a full list", x.ask(1, 3, w("AB")), 50);
        due.is("of one that did not come", x.ask(1, 3, w("ZZ")), 0);
    }

    private static void ask() {
        due.promise(11, "ask");
        WordGrid x = new WordGrid();
        int plain = Due.words(x, 0, "AB", "ABC", "XY");
        int scored = x.list(1, 0, 0, 0);
        x.word(scored, w("AB"), 7);
        x.word(scored, w("CB"), -4);
        int banned = Due.words(x, 2, "AB");
        int pattern = x.list(3, scored, 0, w("?B"));
        int joined = x.list(4, pattern, banned, 0);
        due.is("no such list", x.ask(5, 1, 0), BAD);
        due.is("no such list", x.ask(-1, 4, 0), BAD);
        int[] bad = {-1, 2, 5, Integer.MAX_VALUE};
        for (int act : bad) {
            due.is("act " + act, x.ask(0, act, w("AB")), BAD);
        }
        due.is("no word", x.ask(0, 0, 0), BAD);
        due.is("no word", x.ask(0, 3, w("A?")), BAD);
        due.is("no body began", x.count(4), 0);
        for (int l = 0; l < 5; l++) {
            due.is("kind", x.ask(l, 4, -1), l);
        }
        due.is("no body began", x.count(4), 0);
        due.is("plain allows", x.ask(plain, 0, w("ABC")), 1);
        due.is("plain allows not", x.ask(plain, 0, w("CB")), 0);
        due.is("plain many", x.ask(plain, 1, 0), 3);
        due.is("plain score", x.ask(plain, 3, w("AB")), 0);
        due.trace(x, 3, 1, 0, 0, NONE);
        due.is("scored allows, by plain", x.ask(scored, 0, w("CB")), 1);
        due.is("scored many, by plain", x.ask(scored, 1, 0), 2);
        due.is("scored score", x.ask(scored, 3, w("CB")), -4);
        due.trace(x, 3, 13, 1, 0);
        due.is("scored score of none", x.ask(scored, 3, w("XX")), 0);
        due.trace(x, 3, 13);
        bannedAsked(x, banned);
        patternAsked(x, pattern);
        joinedAsked(x, joined, pattern, banned);
        droppedAsked(x, scored, banned, pattern, joined);
    }

    private static void bannedAsked(WordGrid x, int banned) {
        due.is("banned allows not", x.ask(banned, 0, w("AB")), 0);
        due.trace(x, 0, 20);
        due.is("banned allows", x.ask(banned, 0, w("BA")), 1);
        due.trace(x, 0, 20);
        int bodies = x.count(4);
        due.is("banned many", x.ask(banned, 1, 0), 0);
        due.trace(x, 21, 0);
        due.is("one body", x.count(4) - bodies, 1);
        due.is("banned score, by plain", x.ask(banned, 3, w("AB")), 0);
        due.trace(x, 3, 21);
    }

    private static void patternAsked(WordGrid x, int pattern) {
        int bodies = x.count(4);
        due.is("pattern: a letter is unlike", x.ask(pattern, 0, w("AC")), 0);
        due.is("pattern: longer", x.ask(pattern, 0, w("ABB")), 0);
        due.is("a was not asked", x.count(4) - bodies, 2);
        due.trace(x, 30, 30);
        due.is("pattern: fits, and a allows", x.ask(pattern, 0, w("CB")), 1);
        due.trace(x, 0, 30);
        due.is("pattern: fits, a allows not", x.ask(pattern, 0, w("DB")), 0);
        due.trace(x, 0, 30);
        due.is("pattern many", x.ask(pattern, 1, 0), 2);
        due.trace(x, 1, 31);
        due.is("pattern score", x.ask(pattern, 3, w("AB")), 8);
        due.trace(x, 3, 13, 33);
        due.is("pattern score of what does not fit", x.ask(pattern, 3, w("XYZ")), 1);
    }

    private static void joinedAsked(WordGrid x, int joined, int pattern, int banned) {
        due.is("joined allows", x.ask(joined, 0, w("CB")), 1);
        due.trace(x, 0, 20, 0, 30, 40);
        due.is("joined: b allows not", x.ask(joined, 0, w("AB")), 0);
        due.trace(x, 0, 20, 0, 30, 40);
        int bodies = x.count(4);
        due.is("joined: a allows not, b is not asked", x.ask(joined, 0, w("XY")), 0);
        due.is("bodies", x.count(4) - bodies, 2);
        due.is("joined many is a's", x.ask(joined, 1, 0), 2);
        due.trace(x, 1, 31, 41);
        due.is("joined score", x.ask(joined, 3, w("AB")), 8);
        due.trace(x, 3, 3, 13, 33, 43);
        int other = x.list(4, banned, pattern, 0);
        due.is("joined the other way: many", x.ask(other, 1, 0), 0);
        due.trace(x, 21, 41);
        due.is("joined the other way: score", x.ask(other, 3, w("AB")), 8);
        due.trace(x, 3, 13, 33, 3, 43);
    }

    private static void droppedAsked(WordGrid x, int scored, int banned, int pattern, int joined) {
        x.drop(banned);
        for (int act = 0; act <= 4; act++) {
            due.is("dropped, act " + act, x.ask(banned, act, w("AB")), act == 2 ? BAD : NOTHING);
        }
        due.is("BAD ahead of NOTHING", x.ask(banned, 0, 0), BAD);
        due.is("joined asks b behind a", x.ask(joined, 0, w("CB")), NOTHING);
        due.trace(x, 0, 30, 40);
        due.is("finding", x.finding(), 1);
        due.is("joined, b is not asked", x.ask(joined, 0, w("XY")), 0);
        due.is("finding", x.finding(), 0);
        due.is("joined many does not ask b", x.ask(joined, 1, 0), 2);
        due.is("joined score asks a, then b", x.ask(joined, 3, w("CB")), NOTHING);
        due.trace(x, 3, 13, 33, 43);
        x.drop(scored);
        int found = x.found(1);
        due.is("pattern allows", x.ask(pattern, 0, w("CB")), NOTHING);
        due.trace(x, 30, 3);
        due.is("pattern that does not fit", x.ask(pattern, 0, w("CC")), 0);
        due.is("pattern many", x.ask(pattern, 1, 0), NOTHING);
        due.is("pattern score", x.ask(pattern, 3, w("CC")), NOTHING);
        due.is("its kind", x.ask(pattern, 4, 0), 3);
        due.is("joined score, a has it", x.ask(joined, 3, w("CC")), NOTHING);
        due.trace(x, 33, 43, 33, 31);
        due.is("one finding each", x.found(1) - found, 4);
    }

    private static void wordOf() {
        due.promise(12, "wordOf");
        WordGrid x = new WordGrid();
        int scored = Due.words(x, 1, "AB", "CBA", "CB");
        int banned = Due.words(x, 2, "AB");
        int pattern = x.list(3, scored, 0, w("?B"));
        int joined = x.list(4, pattern, banned, 0);
        due.is("BAD", x.wordOf(4, 0), 0);
        due.is("BAD", x.wordOf(-1, 0), 0);
        due.is("finding of BAD", x.finding(), 0);
        due.is("word 0", x.wordOf(scored, 0), w("AB"));
        due.is("word 2", x.wordOf(scored, 2), w("CB"));
        due.trace(x, 2, 2, NONE);
        int[] beyond = {3, 39, 40, -1, Integer.MAX_VALUE, Integer.MIN_VALUE};
        for (int k : beyond) {
            due.is("beyond", x.wordOf(scored, k), 0);
            due.is("finding", x.finding(), 2);
        }
        due.is("found", x.found(2), beyond.length);
        due.is("banned, by plain", x.wordOf(banned, 0), w("AB"));
        due.trace(x, 2);
        due.is("pattern fits", x.wordOf(pattern, 0), w("AB"));
        due.trace(x, 2, 32);
        due.is("pattern: longer", x.wordOf(pattern, 1), 0);
        due.is("no finding", x.finding(), 0);
        due.is("joined: b allows not", x.wordOf(joined, 0), 0);
        due.trace(x, 0, 20, 2, 32, 42);
        due.is("joined: a has none", x.wordOf(joined, 1), 0);
        due.trace(x, 2, 32, 42);
        due.is("joined", x.wordOf(joined, 2), w("CB"));
        due.is("joined beyond", x.wordOf(joined, 3), 0);
        due.is("finding", x.finding(), 2);
        due.trace(x, 2, 32, 42);
        x.drop(banned);
        due.is("dropped", x.wordOf(banned, 0), 0);
        due.is("finding", x.finding(), 1);
        due.is("joined asks b", x.wordOf(joined, 0), 0);
        due.is("finding", x.finding(), 1);
        due.is("joined asks b not", x.wordOf(joined, 1), 0);
        due.is("finding", x.finding(), 0);
        x.drop(scored);
        due.is("pattern of none", x.wordOf(pattern, 0), 0);
        due.is("finding", x.finding(), 1);
    }

    private static void uses() {
        due.promise(13, "uses");
        WordGrid x = new WordGrid();
        x.list(0, 0, 0, 0);
        x.list(0, 0, 0, 0);
        due.is("no grid", x.uses(0, false, 0), NOTHING);
        due.is("finding", x.finding(), 1);
        x.grid(0, 2, 2);
        due.is("BAD grid", x.uses(4, false, 0), BAD);
        due.is("BAD grid", x.uses(-1, false, 0), BAD);
        due.is("no such number", x.uses(0, false, 2), BAD);
        due.is("no such number", x.uses(0, false, -2), BAD);
        due.is("BAD ahead of NOTHING", x.uses(1, false, 2), BAD);
        due.is("across", x.uses(0, false, 0), -1);
        due.is("down", x.uses(0, true, 1), -1);
        due.is("across was", x.uses(0, false, -1), 0);
        due.is("down was", x.uses(0, true, 0), 1);
        due.is("across was none", x.uses(0, false, 1), -1);
        x.drop(1);
        due.is("a dropped one is still told", x.uses(0, false, 0), 1);
        due.is("a dropped one is taken", x.uses(0, false, 1), 0);
        due.is("and told", x.uses(0, false, 0), 1);
    }

    public static void main(String[] args) {
        list();
        weights();
        drop();
        word();
        ask();
        wordOf();
        uses();
        due.end("ListTests");
    }
}
