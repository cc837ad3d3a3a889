import java.util.Arrays;

/** A desk for crosswords: grids, lists of words, and fillings of the one by the other. */
public final class WordGrid {
    public static final int BAD = -1, STATE = -2, FULL = -3, SPENT = -4, NONE = -5;

    private static final int NOTHING = 1, BEYOND = 2, SORT = 3, SIZE = 4, ZERO = 5;
    private static final int FINDING_KINDS = 5;

    private static final int PLAIN = 0, SCORED = 1, BANNED = 2, PATTERN = 3, JOINED = 4;
    private static final int ALLOWS = 0, MANY = 1, WORD = 2, SCORE = 3, KIND = 4;

    private static final int LETTERS = 26, BLACK = 27, ANY_LETTER = 27;
    /** A square is held as at() tells it: its sign, and a bit for each bar. */
    private static final int SIGN = 31, RIGHT = 32, BELOW = 64;

    private static final int GRIDS = 4, SIDE = 7, CELLS = SIDE * SIDE;
    /** Three runs of two or more fit into seven squares: 3 * 7 across, as many down. */
    private static final int MOST_ENTRIES = 42;
    private static final int MOST_LISTS = 16, MOST_WEIGHT = 30, MOST_WORDS = 40, MOST_LETTERS = 7;
    private static final int MOST_SCORE = 100;
    private static final int MOST_STEPS = 5000, MOST_FILLINGS = 1000, KEPT_FILLINGS = 3;
    private static final int TRACE_LENGTH = 100;
    /** Far above what the most steps of one call can need. */
    private static final int SEARCH_BOUND = 1000000;

    private final Notes notes = new Notes();
    private final Shelf shelf = new Shelf(notes);
    private final Grid[] grids = new Grid[GRIDS];
    private final EntryTable table = new EntryTable();
    /** Two searches, so that a solve() leaves alone what goOn() goes on with. */
    private final Search filling = new Search(notes, shelf);
    private final Search solving = new Search(notes, shelf);
    private final long[] kept = new long[KEPT_FILLINGS * MOST_ENTRIES];
    private int keptFillings;
    private int keptEntries;
    private final int[] told = new int[4];
    private int filledGrid;
    private boolean mayGoOn;
    private int stepsEver;
    private int rowsMoved;

    public WordGrid() {
        for (int g = 0; g < GRIDS; g++) {
            grids[g] = new Grid();
        }
    }

    // ---- grids

    public int grid(int g, int h, int w) {
        notes.clear();
        if (!isGridNumber(g) || h > SIDE || w > SIDE) {
            return BAD;
        }
        if (h < 0 || w < 0) {
            return notes.find(SIZE);
        }
        grids[g].begin(h, w);
        mayGoOn = false;
        return h;
    }

    public int cut(int g, int r, int n) {
        notes.clear();
        if (!isGridNumber(g) || n < -1) {
            return BAD;
        }
        Grid grid = grids[g];
        int refusal = grid.rowRefusal(r);
        if (refusal != 0) {
            return notes.find(refusal);
        }
        int had = grid.lengths[r];
        if (n > had) {
            return notes.find(BEYOND);
        }
        grid.lengths[r] = n;
        mayGoOn = false;
        return had;
    }

    public int letter(int g, int r, int c, int v) {
        notes.clear();
        if (!isGridNumber(g) || v < 0 || v > LETTERS) {
            return BAD;
        }
        Grid grid = grids[g];
        int refusal = grid.squareRefusal(r, c);
        if (refusal != 0) {
            return notes.find(refusal);
        }
        int had = grid.signOf(r, c);
        if (had == BLACK) {
            return STATE;
        }
        grid.putSign(r, c, v);
        mayGoOn = false;
        return had;
    }

    public int black(int g, int r, int c, boolean on) {
        notes.clear();
        if (!isGridNumber(g)) {
            return BAD;
        }
        Grid grid = grids[g];
        int refusal = grid.squareRefusal(r, c);
        if (refusal != 0) {
            return notes.find(refusal);
        }
        int had = grid.signOf(r, c);
        if (on) {
            grid.putSign(r, c, BLACK);
        } else if (had == BLACK) {
            grid.putSign(r, c, 0);
        }
        mayGoOn = false;
        return had;
    }

    public int bar(int g, int r, int c, boolean below, boolean on) {
        notes.clear();
        if (!isGridNumber(g)) {
            return BAD;
        }
        Grid grid = grids[g];
        int refusal = grid.squareRefusal(r, c);
        if (refusal != 0) {
            return notes.find(refusal);
        }
        if (below ? r == grid.height - 1 : c == grid.width - 1) {
            return STATE;
        }
        mayGoOn = false;
        return grid.putBar(r, c, below ? BELOW : RIGHT, on) ? 1 : 0;
    }

    public int at(int g, int r, int c) {
        notes.clear();
        if (!isGridNumber(g)) {
            return BAD;
        }
        int refusal = grids[g].squareRefusal(r, c);
        if (refusal != 0) {
            return notes.find(refusal);
        }
        return grids[g].cells[r * SIDE + c];
    }

    // ---- lists

    public int list(int kind, int a, int b, long p) {
        notes.clear();
        if (kind < PLAIN || kind > JOINED) {
            return BAD;
        }
        if (kind >= PATTERN && !shelf.wasMade(a) || kind == JOINED && !shelf.wasMade(b)) {
            return BAD;
        }
        if (kind == PATTERN && lengthUpTo(p, ANY_LETTER) == 0) {
            return BAD;
        }
        int weight = shelf.weightOf(kind, a, b);
        if (shelf.made == MOST_LISTS || weight > MOST_WEIGHT) {
            return FULL;
        }
        mayGoOn = false;
        return shelf.place(newList(kind, a, b, p), weight);
    }

    private WordList newList(int kind, int a, int b, long p) {
        switch (kind) {
            case SCORED:
                return new Scored(notes);
            case BANNED:
                return new Banned(notes);
            case PATTERN:
                return new Pattern(notes, shelf, a, p);
            case JOINED:
                return new Joined(notes, shelf, a, b);
            default:
                return new Plain(PLAIN, notes);
        }
    }

    public int drop(int l) {
        notes.clear();
        if (!shelf.wasMade(l)) {
            return BAD;
        }
        if (shelf.wanted(l) == null) {
            return notes.answer();
        }
        shelf.lists[l] = null;
        mayGoOn = false;
        return 1;
    }

    public int word(int l, long w, int score) {
        notes.clear();
        if (!shelf.wasMade(l) || !isWord(w) || score < -MOST_SCORE || score > MOST_SCORE) {
            return BAD;
        }
        WordList list = shelf.wanted(l);
        if (list == null) {
            return notes.answer();
        }
        if (list instanceof Plain plain) {
            if (!plain.take(w, score)) {
                return FULL;
            }
            mayGoOn = false;
            return plain.size;
        }
        return notes.find(SORT);
    }

    public int ask(int l, int act, long w) {
        notes.clear();
        if (!shelf.wasMade(l) || act < ALLOWS || act > KIND || act == WORD) {
            return BAD;
        }
        if ((act == ALLOWS || act == SCORE) && !isWord(w)) {
            return BAD;
        }
        WordList list = shelf.wanted(l);
        int said = list == null ? 0 : askedOf(list, act, w);
        return notes.met() ? notes.answer() : said;
    }

    private static int askedOf(WordList list, int act, long w) {
        switch (act) {
            case ALLOWS:
                return list.allows(w) ? 1 : 0;
            case MANY:
                return list.many();
            case SCORE:
                return list.scoreOf(w);
            default:
                return list.kind;
        }
    }

    public long wordOf(int l, int k) {
        notes.clear();
        if (!shelf.wasMade(l)) {
            return 0;
        }
        WordList list = shelf.wanted(l);
        long said = list == null ? 0 : list.wordNumber(k);
        return notes.met() ? 0 : said;
    }

    public int uses(int g, boolean down, int l) {
        notes.clear();
        if (!isGridNumber(g) || l != -1 && !shelf.wasMade(l)) {
            return BAD;
        }
        Grid grid = grids[g];
        if (!grid.there) {
            return notes.find(NOTHING);
        }
        int took = grid.listFor(down);
        if (down) {
            grid.downList = l;
        } else {
            grid.acrossList = l;
        }
        mayGoOn = false;
        return took;
    }

    // ---- entries

    public int entries(int g) {
        notes.clear();
        if (!isGridNumber(g)) {
            return BAD;
        }
        if (!lookAtEntries(g)) {
            return notes.answer();
        }
        return table.size;
    }

    public int entry(int g, int k, int what) {
        notes.clear();
        if (!isGridNumber(g) || what < 0 || what > 4) {
            return BAD;
        }
        if (!lookAtEntries(g)) {
            return notes.answer();
        }
        if (!table.has(k)) {
            return notes.find(BEYOND);
        }
        switch (what) {
            case 0:
                return table.start[k] / SIDE;
            case 1:
                return table.start[k] % SIDE;
            case 2:
                return table.down[k] ? 1 : 0;
            case 3:
                return table.length[k];
            default:
                return table.number[k];
        }
    }

    public long stands(int g, int k) {
        notes.clear();
        if (!isGridNumber(g) || !lookAtEntries(g)) {
            return 0;
        }
        if (!table.has(k)) {
            notes.find(BEYOND);
            return 0;
        }
        long standing = table.standing(k, grids[g].cells);
        boolean whole = maskOf(standing) == (1L << 5 * table.length[k]) - 1;
        return whole ? standing : 0;
    }

    public int crossing(int g, int a, int b) {
        notes.clear();
        if (!isGridNumber(g)) {
            return BAD;
        }
        if (!lookAtEntries(g)) {
            return notes.answer();
        }
        if (!table.has(a) || !table.has(b)) {
            return notes.find(BEYOND);
        }
        return table.crossingOf(a, b);
    }

    /** False: there is no such grid, and that was noted as a finding. */
    private boolean lookAtEntries(int g) {
        if (!grids[g].there) {
            notes.find(NOTHING);
            return false;
        }
        table.lookAt(grids[g]);
        return true;
    }

    // ---- fillings

    public int fill(int g, int steps) {
        notes.clear();
        if (!isGridNumber(g) || !isStepNumber(steps)) {
            return BAD;
        }
        // Also a fill() with a finding is the latest one, and was not SPENT.
        mayGoOn = false;
        if (!grids[g].there) {
            return notes.find(NOTHING);
        }
        if (!filling.gather(grids[g])) {
            return notes.answer();
        }
        filledGrid = g;
        return fillOn(steps);
    }

    public int goOn(int steps) {
        notes.clear();
        if (!isStepNumber(steps)) {
            return BAD;
        }
        if (!mayGoOn) {
            return STATE;
        }
        return fillOn(steps);
    }

    private int fillOn(int steps) {
        filling.allow(steps);
        int outcome = filling.nextFilling();
        mayGoOn = outcome == SPENT;
        if (outcome == 1) {
            filling.writeInto(grids[filledGrid]);
        }
        tellSearch(filling, outcome == 1 ? 1 : 0);
        return outcome;
    }

    public int solve(int g, int most, int steps) {
        notes.clear();
        if (!isGridNumber(g) || most < 1 || most > MOST_FILLINGS || !isStepNumber(steps)) {
            return BAD;
        }
        if (!grids[g].there) {
            return notes.find(NOTHING);
        }
        if (!solving.gather(grids[g])) {
            return notes.answer();
        }
        solving.allow(steps);
        keptFillings = 0;
        keptEntries = solving.table.size;
        int fillings = 0;
        int outcome = 1;
        while (outcome == 1 && fillings < most) {
            outcome = solving.nextFilling();
            if (outcome == 1) {
                keepFilling(fillings);
                fillings++;
            }
        }
        tellSearch(solving, fillings);
        return outcome == SPENT ? SPENT : fillings;
    }

    private void keepFilling(int k) {
        if (k < KEPT_FILLINGS) {
            solving.tellFilling(kept, k * MOST_ENTRIES);
            keptFillings = k + 1;
        }
    }

    private void tellSearch(Search search, int fillings) {
        told[0] = search.steps;
        told[1] = fillings;
        told[2] = search.table.size;
        told[3] = search.candidates;
        stepsEver += search.steps;
    }

    public long first(int k, int e) {
        notes.clear();
        if (k < 0 || k >= keptFillings || e < 0 || e >= keptEntries) {
            return 0;
        }
        return kept[k * MOST_ENTRIES + e];
    }

    public int searched(int what) {
        notes.clear();
        return what < 0 || what >= told.length ? BAD : told[what];
    }

    // ---- judging, moving

    public int judge(int g, int what) {
        notes.clear();
        if (!isGridNumber(g) || what < 0 || what > 10) {
            return BAD;
        }
        if (!lookAtEntries(g)) {
            return notes.answer();
        }
        Grid grid = grids[g];
        switch (what) {
            case 0:
                return grid.squares();
            case 1:
                return grid.whites();
            case 2:
                return grid.whitesInEntries(1);
            case 3:
                return grid.whitesInEntries(0);
            case 4:
                return grid.islands();
            case 5:
                return table.shortest();
            case 6:
                return grid.isHalfTurnAlike() ? 1 : 0;
            case 7:
                return grid.lettersThere();
            case 8:
                return table.size == 0 ? notes.find(ZERO) : grid.whites() / table.size;
            case 9:
                return grid.height;
            default:
                return grid.width;
        }
    }

    public int move(int g, int r, int c, int to, int s, int d, int h, int w) {
        notes.clear();
        if (!isGridNumber(g) || !isGridNumber(to) || h < 0 || h > SIDE || w < 0 || w > SIDE) {
            return BAD;
        }
        mayGoOn = false;
        rowsMoved = 0;
        for (int i = 0; i < h; i++) {
            int refusal = moveRefusal(grids[g], r + i, c, grids[to], s + i, d, w);
            if (refusal != 0) {
                return notes.find(refusal);
            }
            grids[to].takeRow(s + i, d, grids[g], r + i, c, w);
            rowsMoved++;
        }
        return h;
    }

    private static int moveRefusal(Grid from, int r, int c, Grid to, int s, int d, int w) {
        if (!from.there) {
            return NOTHING;
        }
        if (!from.hasRow(r)) {
            return BEYOND;
        }
        if (!to.there) {
            return NOTHING;
        }
        if (!to.hasRow(s)) {
            return BEYOND;
        }
        if (from.lengths[r] < 0 || to.lengths[s] < 0) {
            return NOTHING;
        }
        return from.hasPlaces(r, c, w) && to.hasPlaces(s, d, w) ? 0 : BEYOND;
    }

    public int moved() {
        notes.clear();
        return rowsMoved;
    }

    public int turn(int g) {
        notes.clear();
        int refused = turnRefused(g);
        if (refused != 0) {
            return refused;
        }
        grids[g].turnByQuarter();
        mayGoOn = false;
        return grids[g].height;
    }

    public int mirror(int g) {
        notes.clear();
        int refused = turnRefused(g);
        if (refused != 0) {
            return refused;
        }
        grids[g].swapSides();
        mayGoOn = false;
        return grids[g].width;
    }

    /** The answer of a turn() or mirror() that can't be; 0: it can. */
    private int turnRefused(int g) {
        if (!isGridNumber(g)) {
            return BAD;
        }
        // A lacking row comes ahead of any row that is merely cut.
        if (!grids[g].there || grids[g].lacksRow()) {
            return notes.find(NOTHING);
        }
        return grids[g].isUncut() ? 0 : STATE;
    }

    // ---- what is told

    public int trace(int i) {
        return i < 0 || i >= notes.kept ? NONE : notes.latest(i);
    }

    public int finding() {
        return notes.now;
    }

    public int found(int kind) {
        return kind < 1 || kind > FINDING_KINDS ? BAD : notes.times[kind];
    }

    public long digest(int g) {
        if (!isGridNumber(g) || !grids[g].there) {
            return 0;
        }
        return grids[g].sum();
    }

    public int count(int what) {
        switch (what) {
            case 0:
                return shelf.made;
            case 1:
                return shelf.those();
            case 2:
                return gridsThere();
            case 3:
                return stepsEver;
            case 4:
                return notes.bodies;
            default:
                return BAD;
        }
    }

    private int gridsThere() {
        int n = 0;
        for (int g = 0; g < GRIDS; g++) {
            if (grids[g].there) {
                n++;
            }
        }
        return n;
    }

    // ---- numbers and words

    private static boolean isGridNumber(int g) {
        return g >= 0 && g < GRIDS;
    }

    private static boolean isStepNumber(int steps) {
        return steps >= 1 && steps <= MOST_STEPS;
    }

    private static boolean isWord(long w) {
        return lengthUpTo(w, LETTERS) != 0;
    }

    /** How many letters a word of letters 1 .. top has; 0: it is no such word. */
    private static int lengthUpTo(long w, int top) {
        long rest = w;
        int n = 0;
        while (n < MOST_LETTERS && (rest & 31) != 0 && (rest & 31) <= top) {
            rest >>>= 5;
            n++;
        }
        return rest == 0 && n >= 2 ? n : 0;
    }

    private static int letterOf(long w, int place) {
        return (int) (w >>> 5 * place & 31);
    }

    /** All bits of each place that has a letter. */
    private static long maskOf(long letters) {
        long mask = 0;
        for (int i = 0; i < MOST_LETTERS; i++) {
            if (letterOf(letters, i) != 0) {
                mask |= 31L << 5 * i;
            }
        }
        return mask;
    }

    private static boolean isBefore(long v, long w) {
        for (int i = 0; i < MOST_LETTERS; i++) {
            int unlike = letterOf(v, i) - letterOf(w, i);
            if (unlike != 0) {
                return unlike < 0;
            }
        }
        return false;
    }

    /** The trace of bodies, and the findings of calls. */
    private static final class Notes {
        final int[] ring = new int[TRACE_LENGTH];
        final int[] times = new int[FINDING_KINDS + 1];
        int next;
        int kept;
        int bodies;
        int now;

        void clear() {
            now = 0;
        }

        boolean met() {
            return now != 0;
        }

        int find(int kind) {
            now = kind;
            times[kind]++;
            return answer();
        }

        int answer() {
            return -10 - now;
        }

        void begin(int kind, int act) {
            ring[next] = 10 * kind + act;
            next = next + 1 < TRACE_LENGTH ? next + 1 : 0;
            kept = Math.min(kept + 1, TRACE_LENGTH);
            bodies++;
        }

        int latest(int i) {
            return ring[Math.floorMod(next - 1 - i, TRACE_LENGTH)];
        }
    }

    /** All lists that were made; one that was dropped leaves its number and its weight. */
    private static final class Shelf {
        final Notes notes;
        final WordList[] lists = new WordList[MOST_LISTS];
        final int[] weights = new int[MOST_LISTS];
        int made;

        Shelf(Notes notes) {
            this.notes = notes;
        }

        boolean wasMade(int l) {
            return l >= 0 && l < made;
        }

        /** Null: there is none, and that was noted as a finding. */
        WordList wanted(int l) {
            WordList list = wasMade(l) ? lists[l] : null;
            if (list == null) {
                notes.find(NOTHING);
            }
            return list;
        }

        /** The most weight is also what keeps lists that ask lists from going deep. */
        int weightOf(int kind, int a, int b) {
            int weight = 1;
            if (kind >= PATTERN) {
                weight += weights[a];
            }
            if (kind == JOINED) {
                weight += weights[b];
            }
            return weight;
        }

        int place(WordList list, int weight) {
            int l = made;
            lists[l] = list;
            weights[l] = weight;
            made++;
            return l;
        }

        int those() {
            int n = 0;
            for (int l = 0; l < made; l++) {
                if (lists[l] != null) {
                    n++;
                }
            }
            return n;
        }
    }

    /** A kind's bodies. Behind a finding no further body begins, and what is answered is not used. */
    private abstract static class WordList {
        final int kind;
        final Notes notes;

        WordList(int kind, Notes notes) {
            this.kind = kind;
            this.notes = notes;
        }

        abstract boolean allows(long w);

        abstract int many();

        abstract long wordNumber(int k);

        abstract int scoreOf(long w);
    }

    private static class Plain extends WordList {
        final long[] words = new long[MOST_WORDS];
        int size;

        Plain(int kind, Notes notes) {
            super(kind, notes);
        }

        int placeOf(long w) {
            for (int i = 0; i < size; i++) {
                if (words[i] == w) {
                    return i;
                }
            }
            return -1;
        }

        /** False: it is full. */
        boolean take(long w, int score) {
            if (placeOf(w) >= 0) {
                return true;
            }
            if (size == MOST_WORDS) {
                return false;
            }
            words[size] = w;
            size++;
            return true;
        }

        boolean allows(long w) {
            notes.begin(PLAIN, ALLOWS);
            return placeOf(w) >= 0;
        }

        int many() {
            notes.begin(PLAIN, MANY);
            return size;
        }

        long wordNumber(int k) {
            notes.begin(PLAIN, WORD);
            if (k < 0 || k >= size) {
                notes.find(BEYOND);
                return 0;
            }
            return words[k];
        }

        int scoreOf(long w) {
            notes.begin(PLAIN, SCORE);
            return 0;
        }
    }

    private static final class Scored extends Plain {
        final int[] numbers = new int[MOST_WORDS];

        Scored(Notes notes) {
            super(SCORED, notes);
        }

        boolean take(long w, int score) {
            boolean there = super.take(w, score);
            int place = placeOf(w);
            if (place >= 0) {
                numbers[place] = score;
            }
            return there;
        }

        int scoreOf(long w) {
            notes.begin(SCORED, SCORE);
            int plain = super.scoreOf(w);
            int place = placeOf(w);
            return place < 0 ? plain : plain + numbers[place];
        }
    }

    private static final class Banned extends Plain {
        Banned(Notes notes) {
            super(BANNED, notes);
        }

        boolean allows(long w) {
            notes.begin(BANNED, ALLOWS);
            return !super.allows(w);
        }

        int many() {
            notes.begin(BANNED, MANY);
            return 0;
        }
    }

    private static final class Pattern extends WordList {
        final Shelf shelf;
        final int a;
        final int length;
        final long letters;
        final long mask;

        Pattern(Notes notes, Shelf shelf, int a, long p) {
            super(PATTERN, notes);
            this.shelf = shelf;
            this.a = a;
            this.length = lengthUpTo(p, ANY_LETTER);
            long told = 0;
            for (int i = 0; i < length; i++) {
                int letter = letterOf(p, i);
                if (letter != ANY_LETTER) {
                    told |= (long) letter << 5 * i;
                }
            }
            this.letters = told;
            this.mask = maskOf(told);
        }

        boolean fits(long w) {
            return lengthUpTo(w, LETTERS) == length && ((w ^ letters) & mask) == 0;
        }

        boolean allows(long w) {
            notes.begin(PATTERN, ALLOWS);
            if (!fits(w)) {
                return false;
            }
            WordList one = shelf.wanted(a);
            return one != null && one.allows(w);
        }

        int many() {
            notes.begin(PATTERN, MANY);
            WordList one = shelf.wanted(a);
            return one == null ? 0 : one.many();
        }

        long wordNumber(int k) {
            notes.begin(PATTERN, WORD);
            WordList one = shelf.wanted(a);
            long w = one == null ? 0 : one.wordNumber(k);
            return fits(w) ? w : 0;
        }

        int scoreOf(long w) {
            notes.begin(PATTERN, SCORE);
            WordList one = shelf.wanted(a);
            return one == null ? 0 : one.scoreOf(w) + 1;
        }
    }

    private static final class Joined extends WordList {
        final Shelf shelf;
        final int a;
        final int b;

        Joined(Notes notes, Shelf shelf, int a, int b) {
            super(JOINED, notes);
            this.shelf = shelf;
            this.a = a;
            this.b = b;
        }

        boolean otherAllows(long w) {
            WordList other = shelf.wanted(b);
            return other != null && other.allows(w);
        }

        boolean allows(long w) {
            notes.begin(JOINED, ALLOWS);
            WordList one = shelf.wanted(a);
            boolean allowed = one != null && one.allows(w);
            return allowed && !notes.met() && otherAllows(w);
        }

        int many() {
            notes.begin(JOINED, MANY);
            WordList one = shelf.wanted(a);
            return one == null ? 0 : one.many();
        }

        long wordNumber(int k) {
            notes.begin(JOINED, WORD);
            WordList one = shelf.wanted(a);
            long w = one == null ? 0 : one.wordNumber(k);
            return w != 0 && !notes.met() && otherAllows(w) ? w : 0;
        }

        int scoreOf(long w) {
            notes.begin(JOINED, SCORE);
            WordList one = shelf.wanted(a);
            int score = one == null ? 0 : one.scoreOf(w);
            if (notes.met()) {
                return 0;
            }
            WordList other = shelf.wanted(b);
            return other == null ? 0 : score + other.scoreOf(w);
        }
    }

    /** A grid, or the room for one that is not there. */
    private static final class Grid {
        final int[] cells = new int[CELLS];
        /** -1: the row is lacking. */
        final int[] lengths = new int[SIDE];
        final int[] spare = new int[CELLS];
        final int[] reached = new int[CELLS];
        boolean there;
        int height;
        int width;
        int acrossList = -1;
        int downList = -1;

        void begin(int h, int w) {
            there = true;
            height = h;
            width = w;
            Arrays.fill(cells, 0);
            Arrays.fill(lengths, w);
            acrossList = -1;
            downList = -1;
        }

        int listFor(boolean down) {
            return down ? downList : acrossList;
        }

        boolean hasRow(int r) {
            return r >= 0 && r < height;
        }

        /** Of a row that is not lacking; of no places one behind the last is not beyond. */
        boolean hasPlaces(int r, int c, int w) {
            return c >= 0 && c <= lengths[r] - w;
        }

        /** The finding that a row has; 0: none. */
        int rowRefusal(int r) {
            if (!there) {
                return NOTHING;
            }
            if (!hasRow(r)) {
                return BEYOND;
            }
            return lengths[r] < 0 ? NOTHING : 0;
        }

        /** The finding that a square has; 0: none. */
        int squareRefusal(int r, int c) {
            int refusal = rowRefusal(r);
            if (refusal != 0) {
                return refusal;
            }
            return hasPlaces(r, c, 1) ? 0 : BEYOND;
        }

        int signOf(int r, int c) {
            return cells[r * SIDE + c] & SIGN;
        }

        void putSign(int r, int c, int v) {
            int cell = r * SIDE + c;
            cells[cell] = cells[cell] & ~SIGN | v;
        }

        /** Whether the bar was there. */
        boolean putBar(int r, int c, int side, boolean on) {
            int cell = r * SIDE + c;
            boolean was = (cells[cell] & side) != 0;
            cells[cell] = on ? cells[cell] | side : cells[cell] & ~side;
            return was;
        }

        boolean isWhite(int r, int c) {
            return hasRow(r) && hasPlaces(r, c, 1) && signOf(r, c) != BLACK;
        }

        boolean joinsRight(int r, int c) {
            return isWhite(r, c) && isWhite(r, c + 1) && (cells[r * SIDE + c] & RIGHT) == 0;
        }

        boolean joinsBelow(int r, int c) {
            return isWhite(r, c) && isWhite(r + 1, c) && (cells[r * SIDE + c] & BELOW) == 0;
        }

        int squares() {
            int n = 0;
            for (int r = 0; r < height; r++) {
                n += Math.max(lengths[r], 0);
            }
            return n;
        }

        int whites() {
            int n = 0;
            for (int r = 0; r < height; r++) {
                for (int c = 0; c < lengths[r]; c++) {
                    if (signOf(r, c) != BLACK) {
                        n++;
                    }
                }
            }
            return n;
        }

        int lettersThere() {
            int n = 0;
            for (int r = 0; r < height; r++) {
                for (int c = 0; c < lengths[r]; c++) {
                    if (signOf(r, c) >= 1 && signOf(r, c) <= LETTERS) {
                        n++;
                    }
                }
            }
            return n;
        }

        /** How many white squares are in so many entries. */
        int whitesInEntries(int wanted) {
            int n = 0;
            for (int r = 0; r < height; r++) {
                for (int c = 0; c < lengths[r]; c++) {
                    if (isWhite(r, c) && entriesThrough(r, c) == wanted) {
                        n++;
                    }
                }
            }
            return n;
        }

        /** A white square is in an entry where it joins a neighbour. */
        int entriesThrough(int r, int c) {
            int n = 0;
            if (joinsRight(r, c) || joinsRight(r, c - 1)) {
                n++;
            }
            if (joinsBelow(r, c) || joinsBelow(r - 1, c)) {
                n++;
            }
            return n;
        }

        int islands() {
            Arrays.fill(reached, 0);
            int n = 0;
            for (int r = 0; r < height; r++) {
                for (int c = 0; c < lengths[r]; c++) {
                    if (reach(r, c, 0) == 1) {
                        spread();
                        n++;
                    }
                }
            }
            return n;
        }

        /** A white square not reached before is put at the end of the queue in spare; how long that is then. */
        int reach(int r, int c, int queued) {
            if (!isWhite(r, c) || reached[r * SIDE + c] != 0) {
                return queued;
            }
            reached[r * SIDE + c] = 1;
            spare[queued] = r * SIDE + c;
            return queued + 1;
        }

        void spread() {
            int queued = 1;
            for (int i = 0; i < queued && i < CELLS; i++) {
                int r = spare[i] / SIDE;
                int c = spare[i] % SIDE;
                queued = reach(r, c + 1, queued);
                queued = reach(r, c - 1, queued);
                queued = reach(r + 1, c, queued);
                queued = reach(r - 1, c, queued);
            }
        }

        boolean isHalfTurnAlike() {
            for (int r = 0; r < height; r++) {
                for (int c = 0; c < width; c++) {
                    if (isWhite(r, c) && !isWhite(height - 1 - r, width - 1 - c)) {
                        return false;
                    }
                }
            }
            return true;
        }

        /** Places of both rows were looked at before. */
        void takeRow(int s, int d, Grid from, int r, int c, int w) {
            if (w > 0) {
                System.arraycopy(from.cells, r * SIDE + c, cells, s * SIDE + d, w);
            }
            dropOuterBars(s);
        }

        void dropOuterBars(int r) {
            for (int c = 0; c < lengths[r]; c++) {
                if (c == width - 1) {
                    cells[r * SIDE + c] &= ~RIGHT;
                }
                if (r == height - 1) {
                    cells[r * SIDE + c] &= ~BELOW;
                }
            }
        }

        boolean lacksRow() {
            for (int r = 0; r < height; r++) {
                if (lengths[r] < 0) {
                    return true;
                }
            }
            return false;
        }

        boolean isUncut() {
            for (int r = 0; r < height; r++) {
                if (lengths[r] != width) {
                    return false;
                }
            }
            return true;
        }

        /** Of an uncut grid: what was to the right is below then, what was below is to the left. */
        void turnByQuarter() {
            Arrays.fill(spare, 0);
            for (int r = 0; r < height; r++) {
                for (int c = 0; c < width; c++) {
                    int was = cells[r * SIDE + c];
                    int to = c * SIDE + height - 1 - r;
                    spare[to] |= was & SIGN;
                    if ((was & RIGHT) != 0) {
                        spare[to] |= BELOW;
                    }
                    if ((was & BELOW) != 0 && r < height - 1) {
                        spare[to - 1] |= RIGHT;
                    }
                }
            }
            takeSpare(width, height);
        }

        /** Of an uncut grid: a bar to the right of a square is to the right of its neighbour then. */
        void swapSides() {
            Arrays.fill(spare, 0);
            for (int r = 0; r < height; r++) {
                for (int c = 0; c < width; c++) {
                    int was = cells[r * SIDE + c];
                    int to = r * SIDE + width - 1 - c;
                    spare[to] |= was & (SIGN | BELOW);
                    if ((was & RIGHT) != 0 && c < width - 1) {
                        spare[to - 1] |= RIGHT;
                    }
                }
            }
            takeSpare(height, width);
        }

        void takeSpare(int h, int w) {
            System.arraycopy(spare, 0, cells, 0, CELLS);
            height = h;
            width = w;
            Arrays.fill(lengths, w);
        }

        long sum() {
            long d = 7;
            for (int r = 0; r < height; r++) {
                d = 31 * d + lengths[r];
                for (int c = 0; c < lengths[r]; c++) {
                    d = 31 * d + cells[r * SIDE + c];
                }
            }
            return d;
        }
    }

    /** The entries of a grid, as it was when it was looked at. */
    private static final class EntryTable {
        final int[] start = new int[MOST_ENTRIES];
        final boolean[] down = new boolean[MOST_ENTRIES];
        final int[] length = new int[MOST_ENTRIES];
        final int[] number = new int[MOST_ENTRIES];
        int size;

        void lookAt(Grid grid) {
            size = 0;
            int numbers = 0;
            for (int r = 0; r < grid.height; r++) {
                for (int c = 0; c < grid.width; c++) {
                    boolean across = grid.joinsRight(r, c) && !grid.joinsRight(r, c - 1);
                    boolean downwards = grid.joinsBelow(r, c) && !grid.joinsBelow(r - 1, c);
                    if (across || downwards) {
                        numbers++;
                    }
                    if (across) {
                        add(r * SIDE + c, false, acrossLength(grid, r, c), numbers);
                    }
                    if (downwards) {
                        add(r * SIDE + c, true, downLength(grid, r, c), numbers);
                    }
                }
            }
        }

        void add(int cell, boolean goesDown, int squares, int n) {
            if (size < MOST_ENTRIES) {
                start[size] = cell;
                down[size] = goesDown;
                length[size] = squares;
                number[size] = n;
                size++;
            }
        }

        static int acrossLength(Grid grid, int r, int c) {
            int n = 1;
            while (n < SIDE && grid.joinsRight(r, c + n - 1)) {
                n++;
            }
            return n;
        }

        static int downLength(Grid grid, int r, int c) {
            int n = 1;
            while (n < SIDE && grid.joinsBelow(r + n - 1, c)) {
                n++;
            }
            return n;
        }

        boolean has(int k) {
            return k >= 0 && k < size;
        }

        int cellOf(int k, int place) {
            return start[k] + place * (down[k] ? SIDE : 1);
        }

        /** What stands in an entry, with 0 where no letter does. */
        long standing(int k, int[] cells) {
            long letters = 0;
            for (int i = 0; i < length[k]; i++) {
                letters |= (long) (cells[cellOf(k, i)] & SIGN) << 5 * i;
            }
            return letters;
        }

        int crossingOf(int a, int b) {
            if (a == b) {
                return NONE;
            }
            for (int i = 0; i < length[a]; i++) {
                for (int j = 0; j < length[b]; j++) {
                    if (cellOf(a, i) == cellOf(b, j)) {
                        return 8 * i + j;
                    }
                }
            }
            return NONE;
        }

        int shortest() {
            int least = size == 0 ? 0 : SIDE;
            for (int k = 0; k < size; k++) {
                least = Math.min(least, length[k]);
            }
            return least;
        }
    }

    /** A searching that can stop behind any step, and go on from there. */
    private static final class Search {
        final Notes notes;
        final Shelf shelf;
        final EntryTable table = new EntryTable();
        /** Candidates of entry e are from e * MOST_WORDS on. */
        final long[] words = new long[MOST_ENTRIES * MOST_WORDS];
        final int[] many = new int[MOST_ENTRIES];
        /** Of the entry alone that candidates are being found for. */
        final int[] scores = new int[MOST_WORDS];
        final int[] order = new int[MOST_ENTRIES];
        final int[] cells = new int[CELLS];
        /** By depth: how many candidates were looked at, what stood there before, its mask, what is set. */
        final int[] looked = new int[MOST_ENTRIES];
        final long[] stood = new long[MOST_ENTRIES];
        final long[] masks = new long[MOST_ENTRIES];
        final long[] set = new long[MOST_ENTRIES];
        int depth;
        /** A filling stands that was told. */
        boolean whole;
        int candidates;
        int steps;
        int allowed;

        Search(Notes notes, Shelf shelf) {
            this.notes = notes;
            this.shelf = shelf;
        }

        /** A new searching of a grid; false: there was a finding. */
        boolean gather(Grid grid) {
            table.lookAt(grid);
            System.arraycopy(grid.cells, 0, cells, 0, CELLS);
            candidates = 0;
            for (int e = 0; e < table.size; e++) {
                if (!gatherFor(e, grid.listFor(table.down[e]))) {
                    return false;
                }
                candidates += many[e];
            }
            putInOrder();
            depth = 0;
            whole = false;
            arrive();
            return true;
        }

        boolean gatherFor(int e, int l) {
            many[e] = 0;
            WordList list = shelf.wanted(l);
            if (list == null) {
                return false;
            }
            int size = list.many();
            long standing = table.standing(e, cells);
            long mask = maskOf(standing);
            for (int k = 0; k < size && !notes.met(); k++) {
                long w = list.wordNumber(k);
                boolean agrees = lengthUpTo(w, LETTERS) == table.length[e] && ((w ^ standing) & mask) == 0;
                if (agrees && !notes.met()) {
                    addCandidate(e, w, list.scoreOf(w));
                }
            }
            return !notes.met();
        }

        void addCandidate(int e, long w, int score) {
            if (many[e] >= MOST_WORDS) {
                return;
            }
            int base = e * MOST_WORDS;
            int i = many[e];
            while (i > 0 && isAhead(w, score, words[base + i - 1], scores[i - 1])) {
                words[base + i] = words[base + i - 1];
                scores[i] = scores[i - 1];
                i--;
            }
            words[base + i] = w;
            scores[i] = score;
            many[e]++;
        }

        static boolean isAhead(long w, int score, long other, int otherScore) {
            return score != otherScore ? score > otherScore : isBefore(w, other);
        }

        void putInOrder() {
            for (int e = 0; e < table.size; e++) {
                int i = e;
                while (i > 0 && many[order[i - 1]] > many[e]) {
                    order[i] = order[i - 1];
                    i--;
                }
                order[i] = e;
            }
        }

        void allow(int most) {
            steps = 0;
            allowed = most;
        }

        /** 1: a filling stands; 0: there is none any more; SPENT: it can go on later. */
        int nextFilling() {
            if (whole) {
                whole = false;
                goBack();
            }
            for (int i = 0; i < SEARCH_BOUND && depth >= 0; i++) {
                if (depth == table.size) {
                    whole = true;
                    return 1;
                }
                if (looked[depth] >= many[order[depth]]) {
                    goBack();
                } else if (steps == allowed) {
                    return SPENT;
                } else {
                    lookAtNext();
                }
            }
            return 0;
        }

        void lookAtNext() {
            int e = order[depth];
            long w = words[e * MOST_WORDS + looked[depth]];
            looked[depth]++;
            steps++;
            if (((w ^ stood[depth]) & masks[depth]) == 0 && !isSetBefore(w)) {
                set[depth] = w;
                write(e, w);
                depth++;
                arrive();
            }
        }

        boolean isSetBefore(long w) {
            for (int i = 0; i < depth; i++) {
                if (set[i] == w) {
                    return true;
                }
            }
            return false;
        }

        void arrive() {
            if (depth < table.size) {
                looked[depth] = 0;
                stood[depth] = table.standing(order[depth], cells);
                masks[depth] = maskOf(stood[depth]);
            }
        }

        void goBack() {
            depth--;
            if (depth >= 0) {
                write(order[depth], stood[depth]);
            }
        }

        void write(int e, long letters) {
            for (int i = 0; i < table.length[e]; i++) {
                cells[table.cellOf(e, i)] = letterOf(letters, i);
            }
        }

        void writeInto(Grid grid) {
            for (int e = 0; e < table.size; e++) {
                for (int i = 0; i < table.length[e]; i++) {
                    int cell = table.cellOf(e, i);
                    grid.cells[cell] = grid.cells[cell] & ~SIGN | cells[cell] & SIGN;
                }
            }
        }

        void tellFilling(long[] to, int from) {
            for (int i = 0; i < table.size; i++) {
                to[from + order[i]] = set[i];
            }
        }
    }
}
