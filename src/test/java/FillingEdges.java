/** The boundaries of promises 18, 20, 21 and 22: CANDIDATES, FILLINGS and SEARCHING. */
final class FillingEdges extends Edges {
    private static final int[] NO_STEPS = {0, -1, 5001, MIN, MAX};

    /** fill(), or solve() for one FILLING: what the terms say of SEARCHING is of both. */
    interface Searching {
        int on(Desk x, int g, int steps);
    }

    private int promise;
    private Searching search;

    FillingEdges(Sentences said) {
        super(said);
    }

    @Override
    void all() {
        terms(18, (x, g, steps) -> x.fill(g, steps));
        terms(20, (x, g, steps) -> x.solve(g, 1, steps));
        fillSteps();
        fillStands();
        fillFails();
        fillRefused();
        solve();
        manyFillings();
        solveRefused();
        first();
        firstOfNone();
        searchedTells();
        searchedRefused();
    }

    private void terms(int number, Searching searching) {
        promise = number;
        search = searching;
        candidates();
        candidateOrder();
        candidateFindings();
        fillings();
        order();
        steps();
        spent();
    }

    /** A GRID 0 by its rows, its ENTRIES across and down for one PLAIN LIST of words. */
    private Desk forWords(String words, String... rows) {
        Desk x = desk();
        x.words(PLAIN, words.split(" "));
        x.draw(0, rows);
        x.uses(0, false, 0);
        x.uses(0, true, 0);
        return x;
    }

    /** What the ENTRIES of the first FILLING have, in their order. */
    private void fillingIs(Desk x, String... words) {
        for (int e = 0; e < words.length; e++) {
            due(promise == 18 ? x.stands(0, e) : x.first(0, e), w(words[e]));
        }
    }

    private void candidates() {
        test(promise, "CANDIDATES of an ENTRY: of its LIST (NOTHING: none is told, or it was dropped) MANY is asked, "
            + "then each WORD k;");
        Desk x = forWords("ABC ABCD XYZ", "...");
        due(search.on(x, 0, 1), 1);
        began(x, 0, 1, 2, 3, 2, 2, 3);
        due(x.searched(3), 2);
        Desk none = desk();
        none.list(PLAIN, 0, 0, 0);
        none.draw(0, "..");
        none.uses(0, false, 0);
        due(search.on(none, 0, 1), 0);
        began(none, 0, 1);
        // BANNED has none, though WORDS came into it.
        Desk banned = desk();
        banned.words(BANNED, "AB");
        banned.draw(0, "..");
        banned.uses(0, false, 0);
        due(search.on(banned, 0, 1), 0);
        began(banned, 0, 21);
        test(promise, "those that are not 0, have its length, and agree with the letters that stand in it, are CANDIDATES,");
        Desk y = desk();
        y.words(PLAIN, "AB", "ABC", "ABCD", "ZBC", "AZC", "ABZ", "QQQ");
        y.words(BANNED, "ABC");
        y.list(JOINED, 0, 1, 0);
        y.draw(0, "...");
        y.uses(0, false, 2);
        int[] many = {4, 2, 2, 2};
        String[] rows = {"...", "A..", ".B.", "..C"};
        for (int i = 0; i < rows.length; i++) {
            y.draw(0, rows[i]);
            y.uses(0, false, 2);
            due(search.on(y, 0, 9), 1);
            due(y.searched(3), many[i]);
        }
        y.draw(0, "ABZ");
        y.uses(0, false, 2);
        due(search.on(y, 0, 1), 1);
        due(y.searched(3), 1);
        y.draw(0, "ABC");
        y.uses(0, false, 2);
        due(search.on(y, 0, 1), 0);
        due(y.searched(3), 0);
        lengths();
    }

    private void lengths() {
        String[] words = {"AB", "ABC", "ABCD", "ABCDE", "ABCDEF", "ABCDEFG"};
        for (String word : words) {
            Desk x = forWords("AB ABC ABCD ABCDE ABCDEF ABCDEFG", ".......".substring(0, word.length()));
            due(search.on(x, 0, 1), 1);
            fillingIs(x, word);
            due(x.searched(3), 1);
        }
    }

    private void candidateOrder() {
        test(promise, "and their SCORE is asked at once;");
        Desk x = desk();
        x.words(SCORED, "ABC", "AB", "CD");
        x.list(PATTERN, 0, 0, w("A?"));
        x.draw(0, "..");
        x.uses(0, false, 1);
        due(search.on(x, 0, 1), 1);
        began(x, 0, 31, 1, 32, 2, 32, 2, 33, 13, 3, 32, 2);
        test(promise, "they are in order by SCORE, the greatest first, then as they are BEFORE one another "
            + "(of like ones as they came).");
        Desk y = desk();
        y.list(SCORED, 0, 0, 0);
        y.word(0, w("AA"), -100);
        y.word(0, w("CC"), 1);
        y.word(0, w("DD"), 0);
        y.word(0, w("BB"), 1);
        y.word(0, w("ZZ"), 100);
        String[] want = {"ZZ", "BB", "CC", "DD", "AA"};
        for (String first : want) {
            y.draw(0, "..");
            y.uses(0, false, 0);
            due(search.on(y, 0, 1), 1);
            fillingIs(y, first);
            // What was first has the least then, as AA has, which is BEFORE it.
            y.word(0, w(first), -100);
        }
        y.draw(0, "..");
        y.uses(0, false, 0);
        due(search.on(y, 0, 1), 1);
        fillingIs(y, "AA");
        allInOrder();
        test(promise, "Of two WORDS that is BEFORE which has the lesser letter at the first place where they are unlike "
            + "(no letter is less than each).");
        before("AB BA", "AB");
        before("BA AB", "AB");
        before("BAAAAAA ABZZZZZ ABAAAAA AAZZZZZ", "AAZZZZZ");
        before("AAAAAAB AAAAAAA", "AAAAAAA");
        before("AAAAABA AAAAAAZ", "AAAAAAZ");
        before("ZA YZ", "YZ");
    }

    /** Four ENTRIES apart have the first four CANDIDATES, in whatever order these came. */
    private void allInOrder() {
        String[] came = {"CC BB AA DD", "AA BB CC DD", "DD CC BB AA", "BB DD AA CC"};
        int[] scores = {3, 2, 5, -1};
        for (String words : came) {
            Desk x = desk();
            x.list(SCORED, 0, 0, 0);
            for (String word : words.split(" ")) {
                x.word(0, w(word), scores[word.charAt(0) - 'A']);
            }
            x.draw(0, "..", "##", "..", "##", "..", "##", "..");
            x.uses(0, false, 0);
            due(search.on(x, 0, 1 + 2 + 3 + 4), 1);
            fillingIs(x, "CC", "AA", "BB", "DD");
        }
    }

    private void before(String words, String first) {
        Desk x = forWords(words, ".......".substring(0, first.length()));
        due(search.on(x, 0, 1), 1);
        fillingIs(x, first);
    }

    /** A desk whose fill() or solve() has a FINDING; a fill() ends what was SPENT, so the twin does, too. */
    private void searchFinds(Begin begin, int g, int finding, int... bodies) {
        if (promise == 18) {
            findsLike(begin, x -> x.letter(2, 0, 0, 26), x -> x.fill(g, 5000), finding, bodies);
        } else {
            findsOn(begin, x -> x.solve(g, 1, 5000), finding, bodies);
        }
    }

    /** As busy(), with a GRID 3 by its rows for LISTS across and down. */
    private Begin using(int across, int down, String... rows) {
        return () -> busyWith(x -> {
            x.draw(3, rows);
            x.uses(3, false, across);
            return x.uses(3, true, down);
        });
    }

    private void candidateFindings() {
        test(promise, NOTHING_IS);
        searchFinds(this::busy, 3, NOTHING);
        searchFinds(using(-1, 0, ".."), 3, NOTHING);
        searchFinds(using(5, 0, ".."), 3, NOTHING);
        searchFinds(using(0, -1, ".", "."), 3, NOTHING);
        searchFinds(using(0, 5, ".", "."), 3, NOTHING);
        searchFinds(using(6, 0, ".."), 3, NOTHING, 31);
        searchFinds(using(7, 0, ".."), 3, NOTHING, 41, 1, 42, 2);
        searchFinds(using(8, 0, ".."), 3, NOTHING, 41);
        // Those ahead of it were asked; those behind it are not.
        searchFinds(using(0, 5, "..", ".."), 3, NOTHING, 1, 2, 3, 2, 3);
        searchFinds(using(5, 0, "..", ".."), 3, NOTHING);
        searchFinds(using(0, 5, "..#", "#..", "#.."), 3, NOTHING, 1, 2, 3, 2, 3);
        // A LIST that no ENTRY takes WORDS of is not wanted.
        Desk x = using(0, -1, "..").desk();
        due(search.on(x, 3, 9), 1);
        Desk y = using(5, 0, ".", ".").desk();
        due(search.on(y, 3, 9), 1);
        Desk z = using(-1, -1, ".#", "#.").desk();
        due(search.on(z, 3, 9), 1);
        z.cut(1, 0, 1);
        z.cut(1, 1, 0);
        due(search.on(z, 1, 1), 1);
        due(z.finding(), 0);
    }

    private void fillings() {
        test(promise, "A FILLING gives each ENTRY one of its CANDIDATES, so that crossing ones agree, no WORD twice.");
        Desk x = twoByTwo("AB CD", "AC BD");
        due(search.on(x, 0, 5000), 1);
        fillingIs(x, "AB", "AC", "BD", "CD");
        due(search.on(twoByTwo("AB CD", "AC BE"), 0, 5000), 0);
        due(search.on(twoByTwo("AB CD", "AB CD"), 0, 5000), 0);
        // One WORD for two ENTRIES, of one LIST or of two.
        due(search.on(forWords("AB", "..", "##", ".."), 0, 5000), 0);
        due(search.on(forWords("AB AC", "..", "##", ".."), 0, 5000), 1);
        Desk two = desk();
        two.words(PLAIN, "AB");
        two.words(PLAIN, "AB");
        two.draw(0, "..#", "##.", "##.");
        two.uses(0, false, 0);
        two.uses(0, true, 1);
        due(search.on(two, 0, 5000), 0);
        two.word(1, w("AC"), 0);
        due(search.on(two, 0, 5000), 1);
        fillingIs(two, "AB", "AC");
        // Letters that stand already are a WORD like any other: not twice.
        due(search.on(forWords("AB", "AB", "##", "AB"), 0, 5000), 0);
        due(search.on(forWords("AB", "AB", "##", "#."), 0, 5000), 1);
    }

    private void order() {
        test(promise, "SEARCHING: CANDIDATES of all ENTRIES are found, in order;");
        Desk x = twoByTwo("AB CD", "AC BD");
        x.list(PATTERN, 1, 0, w("??"));
        x.uses(0, true, 2);
        due(search.on(x, 0, 5000), 1);
        began(x, 0, 1, 2, 3, 2, 3,
            31, 1, 32, 2, 33, 3, 32, 2, 33, 3,
            31, 1, 32, 2, 33, 3, 32, 2, 33, 3,
            1, 2, 3, 2, 3);
        // Also where the first ENTRY has no CANDIDATE, so that there is no FILLING.
        Desk none = forWords("AB CD", "ZZ", "##", "..");
        due(search.on(none, 0, 1), 0);
        began(none, 0, 1, 2, 2, 1, 2, 3, 2, 3);
        searched(none, 0, 0, 2, 2);
        test(promise, "then ENTRIES are taken with the fewest CANDIDATES first, of as many in their order;");
        // Three, one and three CANDIDATES: AC is taken first, then AA above it, then AB below.
        Desk y = forWords("AA AB AC", "A.", "##", "AC", "##", "..");
        due(search.on(y, 0, 5000), 1);
        fillingIs(y, "AA", "AC", "AB");
        searched(y, 1 + 1 + 2, 1, 3, 7);
        // The last ENTRY has one, the first one three.
        Desk z = forWords("AA AB AC", "..", "##", "..", "##", ".A");
        due(search.on(z, 0, 5000), 1);
        fillingIs(z, "AB", "AC", "AA");
        searched(z, 1 + 2 + 3, 1, 3, 7);
        // Two have two each: the upper one has the first choice.
        Desk u = forWords("AA AB BB", "..", "##", "A.", "##", "A.");
        due(search.on(u, 0, 5000), 1);
        fillingIs(u, "BB", "AA", "AB");
        searched(u, 1 + 2 + 3, 1, 3, 7);
        orderAnew();
    }

    /** What one SEARCHING took first does not matter to the next one. */
    private void orderAnew() {
        Desk x = forWords("AA AB AC", "..", "##", ".C");
        due(search.on(x, 0, 5000), 1);
        fillingIs(x, "AA", "AC");
        searched(x, 1 + 1, 1, 2, 4);
        x.draw(0, "..", "##", "..", "##", "..");
        x.uses(0, false, 0);
        due(search.on(x, 0, 5000), 1);
        fillingIs(x, "AA", "AB", "AC");
        searched(x, 1 + 2 + 3, 1, 3, 9);
    }

    private void steps() {
        test(promise, "for each its CANDIDATES in order are looked at: a STEP each;");
        Desk x = forWords("AA AB AC AD", "..");
        due(search.on(x, 0, 5000), 1);
        due(x.searched(0), 1);
        due(x.count(3), 1);
        fillingIs(x, "AA");
        test(promise, "one that agrees with the letters that stand there by then, and stands in no ENTRY taken before, is set, "
            + "and the next ENTRY is taken;");
        // ROW 0 takes AA; place 0 looks at AA, which is taken, and sets AB.
        Desk y = forWords("AA AB BA", "..", ".#");
        due(search.on(y, 0, 5000), 1);
        fillingIs(y, "AA", "AB");
        searched(y, 3, 1, 2, 6);
        // AZ; then AZ does not agree, ZB does.
        Desk z = forWords("AZ ZB ZC", "..", "#.");
        due(search.on(z, 0, 5000), 1);
        fillingIs(z, "AZ", "ZB");
        searched(z, 3, 1, 2, 6);
        test(promise, "without any more the one before goes on.");
        // AZ, then AZ and CZ do not agree below; CZ, neither; the first ENTRY has no more.
        Desk none = forWords("AZ CZ", "..", "#.");
        due(search.on(none, 0, 5000), 0);
        searched(none, 1 + 2 + 1 + 2, 0, 2, 4);
        // AZ fails below behind three looks, BA goes on with AZ at its first.
        Desk back = forWords("AZ BA CC", "..", "#.");
        due(search.on(back, 0, 5000), 1);
        fillingIs(back, "BA", "AZ");
        searched(back, 1 + 3 + 1 + 1, 1, 2, 6);
        twiceBack();
    }

    /** The third ENTRY fails behind each choice of the second: both go on, and what they set is taken away again. */
    private void twiceBack() {
        // All apart: AA, then AA, BB, then AA, BB, CC.
        Desk apart = forWords("AA BB CC", "..###", "##.##", "##.##", "###..");
        due(search.on(apart, 0, 5000), 1);
        searched(apart, 1 + 2 + 3, 1, 3, 9);
        Desk x = twoByTwo("AA BB CC", "CC DD EE FF");
        // Both across first: three, three behind each, two of them unlike it; behind each pair four down, none agrees.
        due(search.on(x, 0, 5000), 0);
        searched(x, 3 + 3 * 3 + 6 * 4, 0, 4, 14);
        squares(x, 0, 2, 0, 0, 0, 0);
    }

    private void spent() {
        test(promise, "It is SPENT, when it has done so many STEPS as were told and one more would be.");
        String[] rows = {"..", "##", ".."};
        // AA, then AA and AB: three STEPS to the first FILLING.
        for (int steps = 1; steps <= 4; steps++) {
            Desk x = forWords("AA AB", rows);
            due(search.on(x, 0, steps), steps < 3 ? SPENT : 1);
            searched(x, Math.min(steps, 3), steps < 3 ? 0 : 1, 2, 4);
            due(x.finding(), 0);
            due(x.count(3), Math.min(steps, 3));
        }
        // AB twice: there is none behind two STEPS, and the second is the last one.
        for (int steps = 1; steps <= 3; steps++) {
            Desk x = forWords("AB", rows);
            due(search.on(x, 0, steps), steps < 2 ? SPENT : 0);
            due(x.searched(0), Math.min(steps, 2));
        }
        // As many ENTRIES as there can be, with one CANDIDATE each.
        Desk most = mostEntries();
        due(search.on(most, 0, 41), SPENT);
        due(search.on(most, 0, 42), 1);
        searched(most, 42, 1, 42, 42);
        // No CANDIDATE at all: no STEP would be, so it is never SPENT.
        Desk none = forWords("ABC", rows);
        due(search.on(none, 0, 1), 0);
        searched(none, 0, 0, 2, 0);
        test(promise, "SPENT -4.");
        due(SPENT, -4);
        due(search.on(forWords("AA AB", rows), 0, 2), -4);
        due(search.on(forWords("AA AB", rows), 0, 3), 1);
    }

    private void fillSteps() {
        test(18, "SEARCHING for a FILLING with so many STEPS (1 .. 5000):");
        bad((x, steps) -> x.fill(0, steps), NO_STEPS);
        due(busy().fill(0, 1), SPENT);
        due(busy().fill(0, 5000), 1);
        Desk most = tooLong();
        due(most.fill(0, 5000), SPENT);
        searched(most, 5000, 0, 3, 120);
        due(most.count(3), 5000);
        due(most.goOn(5000), SPENT);
        due(most.count(3), 10000);
    }

    private void fillStands() {
        test(18, "1: the first one stands in the GRID (of no ENTRIES: with 0 STEPS);");
        Desk x = forWords("AB AA", "..", "##", "..");
        due(x.fill(0, 3), 1);
        squares(x, 0, 2, 1, 1, 27, 27, 1, 2);
        // In that GRID alone.
        Desk other = busy();
        other.draw(3, "..");
        other.uses(3, false, 1);
        long before = other.digest(0) + other.digest(1) + other.digest(2);
        due(other.fill(3, 1), 1);
        squares(other, 3, 2, 1, 2);
        due(other.digest(0) + other.digest(1) + other.digest(2), before);
        String[][] none = {{}, {"."}, {"#"}, {".#", "#."}};
        for (String[] rows : none) {
            Desk y = desk();
            y.draw(0, rows);
            long digest = y.digest(0);
            due(y.fill(0, 1), 1);
            searched(y, 0, 1, 0, 0);
            due(y.count(3) + y.count(4), 0);
            due(y.digest(0), digest);
        }
        standsBesides();
    }

    private void fillFails() {
        test(18, "0: there is none;");
        Desk y = forWords("AB", "A.", "##", "..");
        long digest = y.digest(0);
        due(y.fill(0, 5000), 0);
        due(y.digest(0), digest);
        y.word(0, w("AC"), 0);
        due(y.fill(0, 5000), 1);
        test(18, "SPENT: all letters are as before.");
        Desk z = forWords("AB AA", "A.", "##", "..");
        digest = z.digest(0);
        due(z.fill(0, 2), SPENT);
        due(z.digest(0), digest);
        due(z.fill(0, 3), 1);
        due(z.digest(0) == digest ? 1 : 0, 0);
    }

    /** BARS, BLACK SQUARES and letters in no ENTRY stay as they are where a FILLING comes. */
    private void standsBesides() {
        Desk x = desk();
        x.words(PLAIN, "AB");
        x.draw(0, "..#Q", "####");
        x.bar(0, 0, 0, true, true);
        x.bar(0, 0, 1, false, true);
        x.uses(0, false, 0);
        due(x.fill(0, 1), 1);
        squares(x, 0, 4, 1 + 64, 2 + 32, 27, 17, 27, 27, 27, 27);
    }

    /** Three ENTRIES of 40 CANDIDATES each, the last two crossing where no two WORDS agree. */
    private Desk tooLong() {
        Desk x = desk();
        x.list(PLAIN, 0, 0, 0);
        x.list(PLAIN, 0, 0, 0);
        for (int i = 0; i < 40; i++) {
            x.word(0, w("" + (char) ('A' + i / 4) + (char) ('A' + i % 4)), 0);
            x.word(1, w("" + (char) ('P' + i / 5) + (char) ('P' + i % 5)), 0);
        }
        x.draw(0, "..", "##", "..", "#.");
        x.uses(0, false, 0);
        x.uses(0, true, 1);
        return x;
    }

    private void fillRefused() {
        test(18, "BAD; FINDINGS.");
        bad((x, g) -> x.fill(g, 1), NO_GRID_NUMBERS);
        bad((x, steps) -> x.fill(3, steps), NO_STEPS);
        due(busy().fill(0, 1), SPENT);
        due(busy().fill(2, 1), 1);
        promise = 18;
        searchFinds(this::busy, 3, NOTHING);
        searchFinds(using(5, 5, ".."), 3, NOTHING);
        Desk x = busy();
        x.grid(3, 0, 0);
        due(x.fill(3, 1), 1);
        test(18, WHITE_IS);
        Desk y = forWords("AB", "..", "..", "..");
        y.cut(0, 0, -1);
        y.cut(0, 2, -1);
        due(y.fill(0, 9), 1);
        due(y.finding(), 0);
        due(y.at(0, 1, 1), 2);
        y.cut(0, 1, -1);
        due(y.fill(0, 9), 1);
        searched(y, 0, 1, 0, 0);
    }

    private void solve() {
        test(20, "SEARCHING for FILLINGS, till there are so many (1 .. 1000), with so many STEPS: how many;");
        bad((x, most) -> x.solve(0, most, 10), 0, -1, 1001, MIN, MAX);
        bad((x, steps) -> x.solve(0, 1, steps), NO_STEPS);
        due(busy().solve(0, 1, 1), SPENT);
        due(busy().solve(0, 1000, 5000), 2);
        Desk longest = tooLong();
        due(longest.solve(0, 1, 5000), SPENT);
        searched(longest, 5000, 0, 3, 120);
        Desk x = forWords("AA AB", "..", "##", "..");
        // FILLINGS at STEPS 3 and 5; the sixth finds none.
        int[][] most = {{1, 2, SPENT}, {1, 3, 1}, {2, 3, SPENT}, {2, 4, SPENT}, {2, 5, 2}, {3, 5, SPENT}, {3, 6, 2}, {1, 9, 1}};
        for (int[] row : most) {
            due(x.solve(0, row[0], row[1]), row[2]);
        }
        Desk none = forWords("AB", "..", "##", "..");
        due(none.solve(0, 1000, 5000), 0);
        Desk empty = busy();
        due(empty.solve(2, 1, 1), 1);
        due(empty.solve(2, 1000, 1), 1);
        searched(empty, 0, 1, 0, 0);
        test(20, "SPENT.");
        Desk y = forWords("AA AB", "..", "##", "..");
        due(y.solve(0, 2, 4), SPENT);
        searched(y, 4, 1, 2, 4);
        due(y.first(0, 1), w("AB"));
        due(y.finding(), 0);
        due(y.solve(0, 2, 5), 2);
        test(20, "All letters are as before.");
        Desk z = forWords("AA AB", "A.", "##", ".Q");
        z.letter(0, 2, 1, 0);
        long digest = z.digest(0);
        due(z.solve(0, 1, 1), SPENT);
        due(z.digest(0), digest);
        due(z.solve(0, 1, 5000), 1);
        due(z.digest(0), digest);
        due(z.solve(0, 1000, 5000), 2);
        due(z.digest(0), digest);
        due(z.fill(0, 5000), 1);
        due(z.digest(0) == digest ? 1 : 0, 0);
    }

    private void manyFillings() {
        test(20, "till there are so many (1 .. 1000)");
        Desk x = desk();
        x.list(PLAIN, 0, 0, 0);
        for (int i = 0; i < 40; i++) {
            x.word(0, nth(i), 0);
        }
        x.draw(0, "..", "##", "..");
        x.uses(0, false, 0);
        // 39 FILLINGS to each of 40 WORDS, 41 STEPS each: 25 of them are 975, the last 25 are at looks 1 to 25.
        due(x.solve(0, 1000, 25 * 41 + 26), 1000);
        searched(x, 25 * 41 + 26, 1000, 2, 80);
        due(x.solve(0, 1000, 25 * 41 + 25), SPENT);
        searched(x, 25 * 41 + 25, 999, 2, 80);
        due(x.solve(0, 999, 25 * 41 + 25), 999);
        due(x.solve(0, 1, 5000), 1);
    }

    private void solveRefused() {
        test(20, "BAD; FINDINGS.");
        bad((x, g) -> x.solve(g, 1, 1), NO_GRID_NUMBERS);
        refused(x -> x.solve(3, 0, 1), BAD);
        refused(x -> x.solve(3, 1, 0), BAD);
        refused(x -> x.solve(3, 1001, 1), BAD);
        promise = 20;
        searchFinds(this::busy, 3, NOTHING);
        searchFinds(using(5, 5, ".."), 3, NOTHING);
        due(busy().solve(2, 1, 1), 1);
        test(20, WHITE_IS);
        Desk y = forWords("AB", "..", "..");
        y.cut(0, 0, -1);
        due(y.solve(0, 9, 9), 1);
        due(y.finding(), 0);
        y.cut(0, 1, 1);
        due(y.solve(0, 9, 9), 1);
        due(y.searched(2), 0);
    }

    private void first() {
        test(21, "What ENTRY e has in FILLING k (0 .. 2) of the latest solve() that was not BAD and had no FINDING;");
        Desk x = forWords("AA AB AC", "..", "##", "..");
        due(x.solve(0, 4, 5000), 4);
        String[][] want = {{"AA", "AB"}, {"AA", "AC"}, {"AB", "AA"}};
        firstsAre(x, want);
        due(x.first(3, 0), 0);
        due(x.first(3, 1), 0);
        x.solve(0, 0, 1);
        x.solve(4, 1, 1);
        x.solve(0, 1, 5001);
        firstsAre(x, want);
        due(x.solve(3, 1, 1), NOTHING);
        firstsAre(x, want);
        x.uses(0, false, -1);
        due(x.solve(0, 1, 1), NOTHING);
        firstsAre(x, want);
        x.uses(0, false, 0);
        x.fill(0, 5000);
        x.grid(0, 1, 1);
        x.drop(0);
        firstsAre(x, want);
        due(x.solve(0, 1, 1), 1);
        due(x.first(0, 0), 0);
        // SPENT is no BAD: what was found by then is told.
        Desk y = forWords("AA AB AC", "..", "##", "..");
        due(y.solve(0, 9, 3), SPENT);
        due(y.first(0, 1), w("AB"));
        due(y.first(1, 1), 0);
        due(y.solve(0, 9, 4), SPENT);
        due(y.first(1, 1), w("AC"));
        due(y.solve(0, 9, 1), SPENT);
        due(y.first(0, 0), 0);
    }

    private void firstsAre(Desk x, String[][] want) {
        for (int k = 0; k < want.length; k++) {
            for (int e = 0; e < want[k].length; e++) {
                due(x.first(k, e), w(want[k][e]));
            }
        }
    }

    private void firstOfNone() {
        test(21, "0: there is none such.");
        due(desk().first(0, 0), 0);
        Desk x = forWords("AA AB", "..", "##", "..");
        x.fill(0, 5000);
        due(x.first(0, 0), 0);
        x.draw(0, "..", "##", "..");
        x.uses(0, false, 0);
        due(x.solve(0, 2, 5000), 2);
        int[] fillings = {-1, 2, 3, MIN, MAX};
        for (int k : fillings) {
            due(x.first(k, 0), 0);
            due(x.finding(), 0);
        }
        int[] entries = {-1, 2, 41, 42, MIN, MAX};
        for (int e : entries) {
            due(x.first(0, e), 0);
            due(x.first(1, e), 0);
            due(x.finding(), 0);
        }
        due(x.first(1, 1), w("AA"));
        due(x.solve(0, 1, 5000), 1);
        due(x.first(0, 1), w("AB"));
        due(x.first(1, 1), 0);
        x.word(0, w("AC"), 0);
        due(x.solve(0, 3, 5000), 3);
        due(x.first(2, 0), w("AB"));
        due(x.first(-1, 0), 0);
        // Those of as many ENTRIES as there can be are all told.
        Desk most = mostEntries();
        due(most.solve(0, 2, 42), 1);
        due(most.first(0, 41), most.stands(0, 41));
        due(most.first(0, 42), 0);
    }

    private void searchedTells() {
        test(22, "Of the latest fill(), goOn(), solve() that was not refused and had no FINDING:");
        Desk x = busy();
        searched(x, 2, 0, 2, 4);
        x.fill(0, 0);
        x.fill(4, 1);
        x.solve(0, 0, 1);
        x.goOn(0);
        searched(x, 2, 0, 2, 4);
        due(x.solve(3, 1, 1), NOTHING);
        searched(x, 2, 0, 2, 4);
        due(x.goOn(1), 1);
        searched(x, 1, 1, 2, 4);
        due(x.goOn(1), STATE);
        searched(x, 1, 1, 2, 4);
        due(x.fill(3, 1), NOTHING);
        searched(x, 1, 1, 2, 4);
        due(x.solve(2, 1, 1), 1);
        searched(x, 0, 1, 0, 0);
        // A FINDING behind CANDIDATES of another ENTRY tells nothing of them.
        x.draw(3, "..", "..");
        x.uses(3, false, 0);
        due(x.solve(3, 1, 1), NOTHING);
        searched(x, 0, 1, 0, 0);
        test(22, "what = 0 STEPS (of that call), 1 FILLINGS that were found (of that call), 2 ENTRIES, "
            + "3 CANDIDATES of all ENTRIES.");
        Desk y = forWords("AA AB ABC", "..", "##", "..");
        y.fill(0, 1);
        searched(y, 1, 0, 2, 4);
        y.goOn(1);
        searched(y, 1, 0, 2, 4);
        y.solve(0, 9, 5);
        searched(y, 5, 2, 2, 4);
        y.goOn(5000);
        searched(y, 1, 1, 2, 4);
        y.solve(0, 9, 5000);
        searched(y, 2, 1, 2, 2);
    }

    private void searchedRefused() {
        test(22, "0 before.");
        Desk x = desk();
        searched(x, 0, 0, 0, 0);
        x.fill(0, 1);
        x.goOn(1);
        x.solve(0, 1, 0);
        searched(x, 0, 0, 0, 0);
        x.grid(0, 1, 1);
        x.fill(0, 1);
        searched(x, 0, 1, 0, 0);
        test(22, "BAD.");
        bad((y, what) -> y.searched(what), -1, 4, MIN, MAX);
        due(busy().searched(0), 2);
        due(busy().searched(3), 4);
    }
}
