/** The boundaries of promises 8, 9, 10 and 13: making, dropping, filling and using LISTS. */
final class ListEdges extends Edges {
    private static final int MADE = 9;

    ListEdges(Sentences said) {
        super(said);
    }

    @Override
    void all() {
        numbers();
        listRefused();
        patterns();
        sixteen();
        weights();
        drop();
        wordsComing();
        scores();
        wordRefused();
        wordFindings();
        uses();
        usesRefused();
    }

    private void numbers() {
        test(8, "A LIST: its number.");
        for (int kind = PLAIN; kind <= JOINED; kind++) {
            Desk x = busy();
            due(x.list(kind, 0, 0, w("??")), MADE);
            due(x.ask(MADE, KIND, 0), kind);
            due(x.list(kind, 0, 0, w("??")), MADE + 1);
            due(x.ask(MADE + 2, KIND, 0), BAD);
        }
        test(8, "LISTS are numbered from 0 on as they are made (16 ever; one that is dropped is NOTHING, its number stays).");
        Desk x = desk();
        for (int l = 0; l < 16; l++) {
            due(x.list(PLAIN, 0, 0, 0), l);
            due(x.drop(l), 1);
            due(x.ask(l, KIND, 0), NOTHING);
        }
        due(x.list(PLAIN, 0, 0, 0), FULL);
        due(x.count(0), 16);
        due(x.count(1), 0);
    }

    private void listRefused() {
        test(8, "BAD: KIND;");
        bad((x, kind) -> x.list(kind, 0, 0, w("??")), -1, 5, MIN, MAX);
        due(busy().list(0, 0, 0, 0), MADE);
        due(busy().list(4, 0, 0, 0), MADE);
        test(8, "a of 3, 4, b of 4: no number of a LIST that was made;");
        int[] numbers = {-1, MADE, 15, 16, MIN, MAX};
        bad((x, a) -> x.list(PATTERN, a, 0, w("??")), numbers);
        bad((x, a) -> x.list(JOINED, a, 0, 0), numbers);
        bad((x, b) -> x.list(JOINED, 0, b, 0), numbers);
        due(busy().list(PATTERN, MADE - 1, 0, w("??")), MADE);
        due(busy().list(JOINED, MADE - 1, 0, 0), MADE);
        due(busy().list(JOINED, 0, MADE - 1, 0), MADE);
        // One that was dropped was made all the same; and what a KIND has no use for is free.
        due(busy().list(PATTERN, 5, 0, w("??")), MADE);
        due(busy().list(JOINED, 5, 5, 0), MADE);
        for (int n : numbers) {
            due(busy().list(PATTERN, 0, n, w("??")), MADE);
            due(busy().list(PLAIN, n, n, 0), MADE);
            due(busy().list(SCORED, n, n, 0), MADE);
            due(busy().list(BANNED, n, n, 0), MADE);
        }
    }

    private void patterns() {
        test(8, "p is the pattern of a PATTERN (as a WORD, 27 for any letter).");
        String[] good = {"??", "AA", "?Z", "Z?", "???????", "ZZZZZZZ", "A?B?C?D"};
        for (String p : good) {
            due(busy().list(PATTERN, 0, 0, w(p)), MADE);
        }
        Desk x = busy();
        x.words(PLAIN, "AB", "AC", "BB", "ABC");
        due(x.list(PATTERN, MADE, 0, w("A?")), MADE + 1);
        due(x.ask(MADE + 1, ALLOWS, w("AB")), 1);
        due(x.ask(MADE + 1, ALLOWS, w("AC")), 1);
        due(x.ask(MADE + 1, ALLOWS, w("BB")), 0);
        due(x.ask(MADE + 1, ALLOWS, w("ABC")), 0);
        test(8, "p of 3.");
        long[] bad = {0, 1, 27, w("A") << 5, w("?") << 5, w("AAAAAAAA"), w("????????"), -1, w("??") | 1L << 63,
            w("???????") | 1L << 35, w("?????") | 1L << 30 | 1L << 40, w("A") | 28 << 5, w("A") | 31 << 5, 28 | w("A") << 5};
        for (long p : bad) {
            refused(y -> y.list(PATTERN, 0, 0, p), BAD);
        }
        for (int kind : new int[] {PLAIN, SCORED, BANNED, JOINED}) {
            due(busy().list(kind, 0, 0, 0), MADE);
            due(busy().list(kind, 0, 0, -1), MADE);
        }
        test(8, "3 PATTERN of a LIST a: a pattern of 2 to 7 places, each a letter or any.");
        for (int place = 0; place < 7; place++) {
            int at = place;
            long gap = w("???????") & ~(31L << 5 * place);
            if (place < 6) {
                refused(y -> y.list(PATTERN, 0, 0, gap), BAD);
            } else {
                due(busy().list(PATTERN, 0, 0, gap), MADE);
            }
            due(busy().list(PATTERN, 0, 0, gap | 1L << 5 * place), MADE);
            due(busy().list(PATTERN, 0, 0, gap | 27L << 5 * place), MADE);
            refused(y -> y.list(PATTERN, 0, 0, gap | 28L << 5 * at), BAD);
        }
    }

    private void sixteen() {
        test(8, "FULL: 16 were made,");
        for (int kind = PLAIN; kind <= JOINED; kind++) {
            int k = kind;
            refusedOn(this::sixteenLists, x -> x.list(k, 0, 0, w("??")), FULL);
            Desk x = sixteenLists();
            x.drop(15);
            due(x.list(kind, 0, 0, w("??")), FULL);
        }
        Desk x = busy();
        for (int l = MADE; l < 15; l++) {
            x.list(PLAIN, 0, 0, 0);
        }
        due(x.list(PLAIN, 0, 0, 0), 15);
        due(x.list(PLAIN, 0, 0, 0), FULL);
        refusedOn(this::sixteenLists, y -> y.list(5, 0, 0, 0), BAD);
        refusedOn(this::sixteenLists, y -> y.list(PATTERN, 16, 0, w("??")), BAD);
        refusedOn(this::sixteenLists, y -> y.list(PATTERN, 0, 0, 0), BAD);
    }

    /** LISTS 0 .. 8 of WEIGHTS 1, 2, 3, 6, 7, 14, 15, 29, 30. */
    private Desk weighed(int kind) {
        Desk x = desk();
        x.words(kind, "AB");
        x.list(PATTERN, 0, 0, w("??"));
        x.list(JOINED, 0, 0, 0);
        x.list(JOINED, 2, 1, 0);
        x.list(JOINED, 2, 2, 0);
        x.list(JOINED, 4, 3, 0);
        x.list(JOINED, 4, 4, 0);
        x.list(JOINED, 5, 5, 0);
        due(x.list(JOINED, 6, 5, 0), 8);
        x.at(0, 0, 0);
        return x;
    }

    private void weights() {
        test(8, "or its WEIGHT would be above 30");
        for (int kind = PLAIN; kind <= BANNED; kind++) {
            int k = kind;
            refusedOn(() -> weighed(k), x -> x.list(JOINED, 6, 6, 0), FULL);
            refusedOn(() -> weighed(k), x -> x.list(PATTERN, 8, 0, w("??")), FULL);
            refusedOn(() -> weighed(k), x -> x.list(JOINED, 7, 0, 0), FULL);
            refusedOn(() -> weighed(k), x -> x.list(JOINED, 0, 7, 0), FULL);
            refusedOn(() -> weighed(k), x -> x.list(JOINED, 8, 8, 0), FULL);
            due(weighed(k).list(PATTERN, 7, 0, w("??")), 9);
            due(weighed(k).list(JOINED, 5, 6, 0), 9);
        }
        test(8, "(PLAIN, SCORED, BANNED 1; PATTERN 1 and a's; JOINED 1, a's and b's).");
        Desk x = weighed(PLAIN);
        for (int kind = PLAIN; kind <= BANNED; kind++) {
            due(x.list(kind, 8, 8, 0), 9 + kind);
            due(x.list(JOINED, 7, 9 + kind, 0), FULL);
        }
        due(x.list(PATTERN, 7, 8, w("??")), 12);
        due(x.list(PATTERN, 12, 0, w("??")), FULL);
        due(x.list(JOINED, 5, 5, 0), 13);
        due(x.list(JOINED, 13, 0, 0), FULL);
        due(x.list(PATTERN, 13, 0, w("??")), 14);
        // Also of one that was dropped: its number stays, and so does what it would weigh.
        x.drop(8);
        due(x.list(PATTERN, 8, 0, w("??")), FULL);
        refusedOn(() -> weighed(PLAIN), y -> y.list(PATTERN, 8, 0, 0), BAD);
        refusedOn(() -> weighed(PLAIN), y -> y.list(JOINED, 8, 9, 0), BAD);
    }

    private void drop() {
        test(9, "A LIST is dropped: 1.");
        for (int l = 0; l < MADE; l++) {
            Desk x = busy();
            due(x.drop(l), l == 5 ? NOTHING : 1);
            due(x.ask(l, KIND, 0), NOTHING);
            due(x.count(0), MADE);
            due(x.count(1), l == 5 ? MADE - 1 : MADE - 2);
        }
        Desk x = busy();
        x.drop(0);
        due(x.ask(4, MANY, 0), NOTHING);
        due(x.ask(3, MANY, 0), 2);
        due(x.uses(0, false, -1), 0);
        test(9, "BAD: no such number.");
        bad((y, l) -> y.drop(l), -1, MADE, 15, 16, MIN, MAX);
        due(desk().drop(0), BAD);
        due(busy().drop(MADE - 1), 1);
        due(busy().drop(0), 1);
        test(9, "NOTHING: it was.");
        finds(y -> y.drop(5), NOTHING);
        Desk z = busy();
        due(z.drop(4), 1);
        due(z.drop(4), NOTHING);
        due(z.drop(6), 1);
    }

    /** A desk with a LIST 0 of a KIND that has so many WORDS, each with a number, and a FINDING. */
    private Desk holding(int kind, int words) {
        Desk x = desk();
        x.list(kind, 0, 0, 0);
        for (int i = 0; i < words; i++) {
            x.word(0, nth(i), i);
        }
        x.at(0, 0, 0);
        return x;
    }

    private void wordsComing() {
        test(10, "A WORD comes into a LIST, or is there already (never FULL then): how many it has;");
        for (int kind = PLAIN; kind <= BANNED; kind++) {
            Desk x = desk();
            x.list(kind, 0, 0, 0);
            for (int i = 0; i < 40; i++) {
                due(x.word(0, nth(i), 0), i + 1);
                due(x.word(0, nth(i / 2), 0), i + 1);
            }
            due(x.word(0, nth(0), 0), 40);
            due(x.word(0, nth(39), 0), 40);
            due(x.count(4), 0);
            due(x.ask(0, MANY, 0), kind == BANNED ? 0 : 40);
        }
        test(10, "0 PLAIN: WORDS in the order in which they came, 40 at most.");
        Desk y = desk();
        y.words(PLAIN, "ZZ", "AA", "MMM", "AA", "ZZ", "AB");
        due(y.wordOf(0, 0), w("ZZ"));
        due(y.wordOf(0, 1), w("AA"));
        due(y.wordOf(0, 2), w("MMM"));
        due(y.wordOf(0, 3), w("AB"));
        due(y.wordOf(0, 4), 0);
        test(10, "FULL.");
        for (int kind = PLAIN; kind <= BANNED; kind++) {
            int k = kind;
            refusedOn(() -> holding(k, 40), x -> x.word(0, nth(40), 7), FULL);
            refusedOn(() -> holding(k, 40), x -> x.word(0, w("ABC"), 7), FULL);
            refusedOn(() -> holding(k, 40), x -> x.word(0, w("A"), 7), BAD);
            due(holding(k, 39).word(0, nth(40), 7), 40);
            due(holding(k, 40).word(0, nth(39), 7), 40);
        }
    }

    private void scores() {
        test(10, "of SCORED its number becomes score.");
        int[] words = {1, 39, 40};
        for (int many : words) {
            Desk x = holding(SCORED, many);
            int last = many - 1;
            due(x.ask(0, SCORE, nth(last)), last);
            due(x.word(0, nth(last), -7), many);
            due(x.ask(0, SCORE, nth(last)), -7);
            due(x.word(0, nth(0), 9), many);
            due(x.ask(0, SCORE, nth(0)), 9);
        }
        Desk full = holding(SCORED, 40);
        full.word(0, nth(40), 5);
        due(full.ask(0, SCORE, nth(40)), 0);
        due(full.ask(0, SCORE, nth(39)), 39);
        test(10, "SCORED has a number with each WORD.");
        for (int kind : new int[] {PLAIN, BANNED}) {
            Desk x = holding(kind, 2);
            x.word(0, nth(1), 9);
            due(x.ask(0, SCORE, nth(1)), 0);
        }
        due(holding(SCORED, 3).ask(0, SCORE, nth(2)), 2);
        due(holding(SCORED, 3).ask(0, SCORE, nth(3)), 0);
        test(10, "score is not -100 .. 100.");
        for (int l = 0; l <= 2; l++) {
            int list = l;
            bad((x, score) -> x.word(list, w("AB"), score), -101, 101, MIN, MAX);
            bad((x, score) -> x.word(list, w("ZZ"), score), -101, 101, MIN, MAX);
        }
        Desk x = busy();
        due(x.word(1, w("AB"), 100), 2);
        due(x.ask(1, SCORE, w("AB")), 100);
        due(x.word(1, w("AB"), -100), 2);
        due(x.ask(1, SCORE, w("AB")), -100);
        due(x.word(0, w("AB"), 100), 2);
        due(x.word(2, w("AB"), -100), 1);
    }

    private void wordRefused() {
        test(10, "BAD: no such LIST;");
        bad((x, l) -> x.word(l, w("AB"), 0), -1, MADE, 15, 16, MIN, MAX);
        due(desk().word(0, w("AB"), 0), BAD);
        due(busy().word(0, w("AB"), 0), 2);
        Desk last = busy();
        last.list(PLAIN, 0, 0, 0);
        due(last.word(MADE, w("AB"), 0), 1);
        test(10, "w is no WORD;");
        for (long no : noWords()) {
            refused(x -> x.word(0, no, 0), BAD);
        }
        refused(x -> x.word(3, 0, 0), BAD);
        refused(x -> x.word(5, 1, 0), BAD);
        test(10, "A WORD has 2 to 7 letters, 1 .. 26 each; it is told as a long: its letters five bits each, "
            + "the first letter lowest, 0 above the last one.");
        String[] good = {"ZZ", "AC", "ZA", "AAAAAAA", "ZZZZZZZ", "ABCDEFG"};
        Desk x = busy();
        for (int i = 0; i < good.length; i++) {
            due(x.word(0, w(good[i]), 0), 3 + i);
            due(x.wordOf(0, 2 + i), w(good[i]));
        }
        due(x.word(0, 1 + 3 * 32, 0), 8);
        due(x.wordOf(0, 3), 1 + 3 * 32);
        for (int place = 0; place < 7; place++) {
            long gap = w("AAAAAAA") & ~(31L << 5 * place);
            due(busy().word(0, gap, 0), place < 6 ? BAD : 3);
            due(busy().word(0, gap | 26L << 5 * place, 0), 3);
            due(busy().word(0, gap | 27L << 5 * place, 0), BAD);
        }
    }

    /** What is next to a WORD: too short, too long, a letter that is none, one that is missing, something above. */
    static long[] noWords() {
        return new long[] {0, 1, 26, w("A") << 5, w("AAAAAAAA"), w("ZZZZZZZZ"), w("A?"), w("?A"), w("A") | 31 << 5, -1,
            w("AB") | 1L << 63, w("AB") | 1L << 15, w("AAAAAAA") | 1L << 35, w("AB") << 10, Long.MIN_VALUE, Long.MAX_VALUE};
    }

    private void wordFindings() {
        test(10, "NOTHING;");
        finds(x -> x.word(5, w("AB"), 0), NOTHING);
        finds(x -> x.word(5, w("ZZ"), 100), NOTHING);
        refused(x -> x.word(5, w("AB"), 101), BAD);
        Desk x = busy();
        x.drop(3);
        x.drop(4);
        due(x.word(3, w("AB"), 0), NOTHING);
        due(x.word(4, w("AB"), 0), NOTHING);
        due(x.word(0, w("AB"), 0), 2);
        test(10, "SORT: PATTERN, JOINED.");
        int[] lists = {3, 4, 6, 7, 8};
        for (int l : lists) {
            finds(y -> y.word(l, w("AB"), 0), SORT);
            finds(y -> y.word(l, w("ZZ"), -100), SORT);
            refused(y -> y.word(l, w("AB"), 101), BAD);
        }
        test(10, "3 SORT: a LIST of another KIND than is wanted;");
        for (int kind = PLAIN; kind <= JOINED; kind++) {
            Desk y = busy();
            y.list(kind, 0, 0, w("??"));
            due(y.word(MADE, w("AB"), 0), kind <= BANNED ? 1 : SORT);
            due(y.finding(), kind <= BANNED ? 0 : 3);
        }
    }

    private void uses() {
        test(13, "ENTRIES across (down) of a GRID take WORDS of a LIST (-1 none): what they took.");
        Desk x = busy();
        due(x.uses(0, false, 8), 0);
        due(x.uses(0, false, -1), 8);
        due(x.uses(0, false, 0), -1);
        due(x.uses(0, true, 0), 1);
        due(x.uses(0, true, -1), 0);
        due(x.uses(0, true, 8), -1);
        due(x.uses(0, false, 0), 0);
        due(x.uses(1, false, 0), 1);
        due(x.uses(1, true, 0), -1);
        due(x.uses(2, false, -1), -1);
        test(13, "ENTRIES across take WORDS of one LIST, those down of one (none, at first).");
        Desk y = desk();
        y.words(PLAIN, "AB");
        y.words(PLAIN, "CD");
        y.draw(0, "..#", "##.", "##.");
        due(y.uses(0, false, 0), -1);
        due(y.fill(0, 9), NOTHING);
        due(y.uses(0, true, 1), -1);
        due(y.fill(0, 9), 1);
        due(y.stands(0, 0), w("AB"));
        due(y.stands(0, 1), w("CD"));
        due(y.uses(0, false, -1), 0);
        due(y.fill(0, 9), NOTHING);
    }

    private void usesRefused() {
        test(13, "BAD: GRID; no such number (one that was dropped is taken).");
        bad((x, g) -> x.uses(g, false, 0), NO_GRID_NUMBERS);
        bad((x, g) -> x.uses(g, true, -1), NO_GRID_NUMBERS);
        bad((x, l) -> x.uses(0, false, l), -2, MADE, 15, 16, MIN, MAX);
        bad((x, l) -> x.uses(0, true, l), -2, MADE, 15, 16, MIN, MAX);
        refused(x -> x.uses(3, false, MADE), BAD);
        refused(x -> x.uses(3, true, -2), BAD);
        Desk x = busy();
        due(x.uses(0, false, MADE - 1), 0);
        due(x.uses(0, false, 5), MADE - 1);
        due(x.uses(0, false, -1), 5);
        due(x.uses(0, true, 5), 1);
        due(x.finding(), 0);
        test(13, "NOTHING: no GRID.");
        finds(y -> y.uses(3, false, 0), NOTHING);
        finds(y -> y.uses(3, true, -1), NOTHING);
        finds(y -> y.uses(3, true, 5), NOTHING);
        Desk z = busy();
        z.grid(3, 0, 0);
        due(z.uses(3, true, 5), -1);
        due(z.uses(3, false, -1), -1);
    }
}
