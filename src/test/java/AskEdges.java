/** The boundaries of promises 11 and 12: the ACTS of LISTS, and the BODIES that begin. */
final class AskEdges extends Edges {
    private static final int MADE = 9;

    AskEdges(Sentences said) {
        super(said);
    }

    @Override
    void all() {
        acts();
        askRefused();
        askFindings();
        allows();
        many();
        score();
        traced();
        wordOf();
        wordOfNone();
        wordOfBodies();
    }

    /** An answer of ask(), and the BODIES that begin for it, the first one first. */
    private void asks(Desk x, int l, int act, String word, int answer, int... bodies) {
        int before = x.count(4);
        due(x.ask(l, act, w(word)), answer);
        due(x.finding(), 0);
        began(x, before, bodies);
    }

    private void acts() {
        test(11, "ALLOWS (act 0; 1, 0), MANY (1), SCORE (3) of a LIST,");
        Desk x = busy();
        asks(x, 0, 0, "AB", 1, 0);
        asks(x, 0, 0, "BA", 0, 0);
        asks(x, 0, 1, "", 2, 1);
        asks(x, 1, 3, "AB", 5, 13, 3);
        asks(x, 1, 3, "BA", -3, 13, 3);
        test(11, "its KIND (4; no BODY).");
        int[] kinds = {0, 1, 2, 3, 4, NOTHING, 3, 4, 4};
        int before = x.count(4);
        for (int l = 0; l < MADE; l++) {
            due(x.ask(l, 4, 0), kinds[l]);
        }
        due(x.count(4), before);
        test(11, "4 JOINED of LISTS a, b.");
        x.list(JOINED, 1, 3, 0);
        asks(x, MADE, 4, "", 4);
        asks(x, MADE, 0, "AB", 1, 40, 0, 30, 0);
        x.list(JOINED, 3, 1, 0);
        asks(x, MADE + 1, 0, "AB", 1, 40, 30, 0, 0);
        x.list(JOINED, 0, 0, 0);
        asks(x, MADE + 2, 0, "AB", 1, 40, 0, 0);
    }

    private void askRefused() {
        test(11, "BAD: no such LIST; act;");
        for (int act = 0; act <= 4; act++) {
            int a = act;
            bad((x, l) -> x.ask(l, a, w("AB")), -1, MADE, 15, 16, MIN, MAX);
        }
        due(busy().ask(MADE - 1, KIND, 0), 4);
        bad((x, act) -> x.ask(0, act, w("AB")), -1, 2, 5, MIN, MAX);
        bad((x, act) -> x.ask(5, act, w("AB")), -1, 2, 5);
        due(busy().ask(0, 0, w("AB")), 1);
        due(busy().ask(0, 4, w("AB")), 0);
        test(11, "w of 0, 3 is no WORD.");
        for (long no : ListEdges.noWords()) {
            refused(x -> x.ask(0, ALLOWS, no), BAD);
            refused(x -> x.ask(1, SCORE, no), BAD);
            refused(x -> x.ask(5, SCORE, no), BAD);
            due(busy().ask(0, MANY, no), 2);
            due(busy().ask(1, KIND, no), 1);
        }
        due(busy().ask(0, ALLOWS, w("AAAAAAA")), 0);
        due(busy().ask(1, SCORE, w("ZZZZZZZ")), 0);
        due(busy().ask(1, SCORE, w("ZZ")), 0);
    }

    private void askFindings() {
        test(11, "NOTHING.");
        for (int act : new int[] {ALLOWS, MANY, SCORE, KIND}) {
            finds(x -> x.ask(5, act, w("AB")), NOTHING);
            Desk x = busy();
            x.drop(0);
            due(x.ask(0, act, w("AB")), NOTHING);
            due(x.ask(1, act, w("AB")) >= 0 ? 1 : 0, 1);
        }
        test(11, NOTHING_IS);
        finds(x -> x.ask(6, ALLOWS, w("AB")), NOTHING, 30);
        finds(x -> x.ask(6, MANY, 0), NOTHING, 31);
        finds(x -> x.ask(6, SCORE, w("AB")), NOTHING, 33);
        finds(x -> x.ask(7, ALLOWS, w("AB")), NOTHING, 40, 0);
        finds(x -> x.ask(7, SCORE, w("AB")), NOTHING, 43, 3);
        finds(x -> x.ask(8, ALLOWS, w("AB")), NOTHING, 40);
        finds(x -> x.ask(8, MANY, 0), NOTHING, 41);
        finds(x -> x.ask(8, SCORE, w("AB")), NOTHING, 43);
        // What is not asked is not used.
        Desk x = busy();
        asks(x, 6, ALLOWS, "ABC", 0, 30);
        asks(x, 7, ALLOWS, "BB", 0, 40, 0);
        asks(x, 7, MANY, "", 2, 41, 1);
        asks(x, 6, KIND, "", 3);
        asks(x, 8, KIND, "", 4);
        test(11, "A call that has one answers -10 less it (one that answers a long: 0), the first that it meets; it changes "
            + "nothing then but THE TRACE, finding(), found() and count(4), where its comment says nothing else.");
        // Both LISTS of it are no more: one FINDING all the same, and b is not asked.
        Begin both = () -> busyWith(y -> y.list(JOINED, 5, 5, 0));
        findsOn(both, y -> y.ask(MADE, ALLOWS, w("AB")), NOTHING, 40);
        findsOn(both, y -> y.ask(MADE, SCORE, w("AB")), NOTHING, 43);
        // What a is asked has a FINDING: neither is b asked behind that.
        Begin inner = () -> busyWith(y -> y.list(JOINED, 6, 0, 0));
        findsOn(inner, y -> y.ask(MADE, ALLOWS, w("AB")), NOTHING, 40, 30);
        findsOn(inner, y -> y.ask(MADE, MANY, 0), NOTHING, 41, 31);
        findsOn(inner, y -> y.ask(MADE, SCORE, w("AB")), NOTHING, 43, 33);
        asks(inner.desk(), MADE, ALLOWS, "ABC", 0, 40, 30);
    }

    private void allows() {
        test(11, "ALLOWS (0) of a WORD: PLAIN: it is there.");
        Desk x = busy();
        asks(x, 0, ALLOWS, "AA", 1, 0);
        asks(x, 0, ALLOWS, "AC", 0, 0);
        asks(x, 0, ALLOWS, "ABA", 0, 0);
        x.list(PLAIN, 0, 0, 0);
        asks(x, MADE, ALLOWS, "AB", 0, 0);
        test(11, "BANNED: not what PLAIN's BODY says.");
        asks(x, 2, ALLOWS, "AB", 0, 20, 0);
        asks(x, 2, ALLOWS, "AA", 1, 20, 0);
        x.list(BANNED, 0, 0, 0);
        asks(x, MADE + 1, ALLOWS, "AB", 1, 20, 0);
        test(11, "PATTERN: it has as many letters, and each as told; and a ALLOWS it (asked only then).");
        x.words(PLAIN, "ABC", "ABCD", "AB", "AZZ");
        x.list(PATTERN, MADE + 2, 0, w("A?C"));
        int pattern = MADE + 3;
        asks(x, pattern, ALLOWS, "ABC", 1, 30, 0);
        asks(x, pattern, ALLOWS, "AZC", 0, 30, 0);
        asks(x, pattern, ALLOWS, "AB", 0, 30);
        asks(x, pattern, ALLOWS, "ABCD", 0, 30);
        asks(x, pattern, ALLOWS, "BBC", 0, 30);
        asks(x, pattern, ALLOWS, "AZZ", 0, 30);
        sevens(x);
        test(11, "JOINED: a ALLOWS it, and b does (asked only then).");
        asks(x, 4, ALLOWS, "AA", 1, 40, 0, 20, 0);
        asks(x, 4, ALLOWS, "AB", 0, 40, 0, 20, 0);
        asks(x, 4, ALLOWS, "BB", 0, 40, 0);
        test(11, "1 SCORED and 2 BANNED are PLAIN, too (what they do not have of their own is PLAIN's);");
        asks(x, 1, ALLOWS, "AB", 1, 0);
        asks(x, 1, ALLOWS, "AA", 0, 0);
        asks(x, 1, MANY, "", 2, 1);
        asks(x, 2, SCORE, "AB", 0, 3);
        asks(x, 2, SCORE, "ZZ", 0, 3);
    }

    /** A pattern as long as there is, with a letter told at its first or last place alone. */
    private void sevens(Desk x) {
        int plain = x.words(PLAIN, "ABCDEFG", "BBCDEFZ");
        int first = x.list(PATTERN, plain, 0, w("A??????"));
        asks(x, first, ALLOWS, "ABCDEFG", 1, 30, 0);
        asks(x, first, ALLOWS, "BBCDEFZ", 0, 30);
        int last = x.list(PATTERN, plain, 0, w("??????Z"));
        asks(x, last, ALLOWS, "BBCDEFZ", 1, 30, 0);
        asks(x, last, ALLOWS, "ABCDEFG", 0, 30);
        asks(x, last, ALLOWS, "ABCDEF", 0, 30);
    }

    private void many() {
        test(11, "MANY (1): PLAIN: how many WORDS.");
        Desk x = busy();
        x.list(PLAIN, 0, 0, 0);
        asks(x, MADE, MANY, "", 0, 1);
        for (int i = 0; i < 40; i++) {
            x.word(MADE, nth(i), 0);
            asks(x, MADE, MANY, "", i + 1, 1);
        }
        x.word(MADE, nth(40), 0);
        asks(x, MADE, MANY, "", 40, 1);
        test(11, "BANNED: 0 (PLAIN's BODY is not asked; its WORD k is PLAIN's all the same).");
        asks(x, 2, MANY, "", 0, 21);
        x.list(JOINED, 2, 0, 0);
        asks(x, MADE + 1, MANY, "", 0, 41, 21);
        due(x.wordOf(2, 0), w("AB"));
        due(x.trace(0), 2);
        test(11, "PATTERN, JOINED: of a.");
        asks(x, 3, MANY, "", 2, 31, 1);
        asks(x, 4, MANY, "", 2, 41, 1);
        x.list(PATTERN, 2, 0, w("??"));
        asks(x, MADE + 2, MANY, "", 0, 31, 21);
        // Also where none of a's WORDS fits.
        x.list(PATTERN, 0, 0, w("ZZZ"));
        asks(x, MADE + 3, MANY, "", 2, 31, 1);
    }

    private void score() {
        test(11, "SCORE (3) of a WORD: PLAIN: 0.");
        Desk x = busy();
        asks(x, 0, SCORE, "AB", 0, 3);
        asks(x, 0, SCORE, "ZZ", 0, 3);
        test(11, "SCORED: PLAIN's BODY's, and the number with it (0, if it is not there).");
        asks(x, 1, SCORE, "AB", 5, 13, 3);
        asks(x, 1, SCORE, "BA", -3, 13, 3);
        asks(x, 1, SCORE, "AA", 0, 13, 3);
        test(11, "PATTERN: that of a, and 1.");
        asks(x, 3, SCORE, "AB", 6, 33, 13, 3);
        asks(x, 3, SCORE, "BA", -2, 33, 13, 3);
        asks(x, 3, SCORE, "ABC", 1, 33, 13, 3);
        test(11, "JOINED: that of a, and that of b, asked in this order.");
        asks(x, 4, SCORE, "AB", 0, 43, 3, 3);
        x.list(JOINED, 1, 3, 0);
        asks(x, MADE, SCORE, "AB", 11, 43, 13, 3, 33, 13, 3);
        x.list(JOINED, 3, 2, 0);
        asks(x, MADE + 1, SCORE, "BA", -2, 43, 33, 13, 3, 3);
        x.list(JOINED, 0, MADE, 0);
        asks(x, MADE + 2, SCORE, "AB", 11, 43, 3, 43, 13, 3, 33, 13, 3);
    }

    private void traced() {
        test(11, "Each BODY that begins puts 10 times its KIND and its ACT behind THE TRACE (the latest 100 are kept; "
            + "BODIES that are asked come behind those that ask).");
        Desk x = busy();
        int before = x.count(4);
        x.ask(0, MANY, 0);
        for (int i = 0; i < 49; i++) {
            x.ask(1, SCORE, w("AB"));
        }
        due(x.count(4) - before, 99);
        due(x.trace(98), 1);
        x.ask(0, ALLOWS, w("AB"));
        due(x.trace(99), 1);
        due(x.trace(0), 0);
        due(x.trace(1), 3);
        due(x.trace(2), 13);
        x.ask(0, ALLOWS, w("AB"));
        due(x.trace(99), 13);
        due(x.trace(100), NONE);
        due(x.count(4) - before, 101);
        test(11, "KINDS, each with ACTS; an ACT is done by the BODY of the KIND:");
        asks(x, 0, MANY, "", 2, 1);
        asks(x, 2, MANY, "", 0, 21);
        asks(x, 3, MANY, "", 2, 31, 1);
        asks(x, 4, MANY, "", 2, 41, 1);
    }

    private void tells(Desk x, int l, int k, long answer, int... bodies) {
        int before = x.count(4);
        due(x.wordOf(l, k), answer);
        due(x.finding(), 0);
        began(x, before, bodies);
    }

    private void wordOf() {
        test(12, "WORD k of a LIST;");
        Desk x = busy();
        tells(x, 0, 0, w("AB"), 2);
        tells(x, 0, 1, w("AA"), 2);
        test(12, "WORD k (2): PLAIN: WORD k, from 0 on; BEYOND.");
        int[] places = {-1, 2, 3, 39, 40, 41, MIN, MAX};
        for (int k : places) {
            findsOfLong(y -> y.wordOf(0, k), BEYOND, 2);
            findsOfLong(y -> y.wordOf(1, k), BEYOND, 2);
            findsOfLong(y -> y.wordOf(3, k), BEYOND, 32, 2);
            findsOfLong(y -> y.wordOf(4, k), BEYOND, 42, 2);
        }
        findsOfLong(y -> y.wordOf(2, 1), BEYOND, 2);
        Desk full = desk();
        full.list(PLAIN, 0, 0, 0);
        due(full.wordOf(0, 0), 0);
        due(full.finding(), 2);
        for (int i = 0; i < 40; i++) {
            full.word(0, nth(i), 0);
        }
        tells(full, 0, 39, nth(39), 2);
        due(full.wordOf(0, 40), 0);
        due(full.finding(), 2);
        test(12, BEYOND_IS);
        findsOfLong(y -> y.wordOf(0, 2), BEYOND, 2);
        tells(busy(), 0, 1, w("AA"), 2);
    }

    private void wordOfNone() {
        test(12, "0: there is none.");
        Desk x = busy();
        tells(x, 3, 1, 0, 32, 2);
        tells(x, 4, 0, 0, 42, 2, 20, 0);
        test(12, "(BAD: 0; NOTHING; BEYOND.)");
        int[] numbers = {-1, MADE, 15, 16, MIN, MAX};
        for (int l : numbers) {
            refused(y -> y.wordOf(l, 0), 0);
        }
        findsOfLong(y -> y.wordOf(5, 0), NOTHING);
        findsOfLong(y -> y.wordOf(5, MAX), NOTHING);
        findsOfLong(y -> y.wordOf(6, 0), NOTHING, 32);
        findsOfLong(y -> y.wordOf(8, 0), NOTHING, 42);
        findsOfLong(y -> y.wordOf(8, -1), NOTHING, 42);
        findsOfLong(y -> y.wordOf(7, 0), NOTHING, 42, 2);
        // a is asked first, and b not at all where a has none.
        findsOfLong(y -> y.wordOf(7, 2), BEYOND, 42, 2);
        Desk y = busy();
        due(y.wordOf(MADE - 1, 0), 0);
        due(y.finding(), 1);
    }

    private void wordOfBodies() {
        test(12, "BANNED: 0 (PLAIN's BODY is not asked; its WORD k is PLAIN's all the same).");
        Desk x = busy();
        tells(x, 2, 0, w("AB"), 2);
        tells(x, 1, 1, w("BA"), 2);
        test(12, "PATTERN: that of a, if it has as many letters, and each as told; else 0.");
        x.words(PLAIN, "ABC", "ABCD", "AB", "AZZ", "ZBC", "AAC");
        x.list(PATTERN, MADE, 0, w("A?C"));
        long[] want = {w("ABC"), 0, 0, 0, 0, w("AAC")};
        for (int k = 0; k < want.length; k++) {
            tells(x, MADE + 1, k, want[k], 32, 2);
        }
        test(12, "JOINED: that of a, if it is not 0 and b ALLOWS it (asked only then); else 0.");
        x.words(BANNED, "AAC");
        x.list(JOINED, MADE + 1, MADE + 2, 0);
        tells(x, MADE + 3, 0, w("ABC"), 42, 32, 2, 20, 0);
        tells(x, MADE + 3, 1, 0, 42, 32, 2);
        tells(x, MADE + 3, 5, 0, 42, 32, 2, 20, 0);
        // b, too, was dropped; it is not missed where a has none.
        x.list(JOINED, MADE + 1, 5, 0);
        tells(x, MADE + 4, 1, 0, 42, 32, 2);
        due(x.wordOf(MADE + 4, 0), 0);
        due(x.finding(), 1);
    }
}
