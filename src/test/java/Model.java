import java.util.ArrayList;
import java.util.Collections;
import java.util.Comparator;
import java.util.HashSet;
import java.util.List;
import java.util.Set;
import java.util.function.IntSupplier;

/**
 * The document once more, in another form than WordGrid, to compare it with: here the machine itself refuses, and a
 * searching that goes on is done again from its beginning.
 */
final class Model {
    static final int BAD = -1, STATE = -2, FULL = -3, SPENT = -4, NONE = -5;

    private static final class Square {
        final int sign;
        final boolean right;
        final boolean below;

        Square(int sign, boolean right, boolean below) {
            this.sign = sign;
            this.right = right;
            this.below = below;
        }

        int told() {
            return sign + (right ? 32 : 0) + (below ? 64 : 0);
        }
    }

    private static final class Board {
        Square[][] rows;
        int width;
        int across = -1;
        int down = -1;

        boolean white(int r, int c) {
            return r >= 0 && r < rows.length && rows[r] != null && c >= 0 && c < rows[r].length && rows[r][c].sign != 27;
        }
    }

    private static final class Run {
        int row;
        int col;
        boolean down;
        int number;
        final List<int[]> squares = new ArrayList<>();
    }

    private static final class Candidate {
        final long word;
        final int score;

        Candidate(long word, int score) {
            this.word = word;
            this.score = score;
        }
    }

    private static final class Spent extends RuntimeException {
        private static final long serialVersionUID = 1L;
    }

    private static final class Enough extends RuntimeException {
        private static final long serialVersionUID = 1L;
    }

    private abstract class Words {
        int kind;
        int weight = 1;

        abstract boolean allows(long w);

        abstract int many();

        abstract long nth(int k);

        abstract int score(long w);
    }

    private class PlainWords extends Words {
        long[] words = new long[0];
        int[] scores = new int[0];

        int indexOf(long w) {
            for (int i = 0; i < words.length; i++) {
                if (words[i] == w) {
                    return i;
                }
            }
            return -1;
        }

        boolean allows(long w) {
            body(0);
            return indexOf(w) >= 0;
        }

        int many() {
            body(1);
            return words.length;
        }

        long nth(int k) {
            body(2);
            return words[k];
        }

        int score(long w) {
            body(3);
            return 0;
        }
    }

    private final class ScoredWords extends PlainWords {
        int score(long w) {
            body(13);
            int plain = super.score(w);
            return plain + (indexOf(w) < 0 ? 0 : scores[indexOf(w)]);
        }
    }

    private final class BannedWords extends PlainWords {
        boolean allows(long w) {
            body(20);
            return !super.allows(w);
        }

        int many() {
            body(21);
            return 0;
        }
    }

    private final class PatternWords extends Words {
        int a;
        String pattern;

        boolean fits(long w) {
            String text = text(w);
            if (text.length() != pattern.length()) {
                return false;
            }
            for (int i = 0; i < text.length(); i++) {
                if (pattern.charAt(i) != '?' && pattern.charAt(i) != text.charAt(i)) {
                    return false;
                }
            }
            return true;
        }

        boolean allows(long w) {
            body(30);
            return fits(w) && lists.get(a).allows(w);
        }

        int many() {
            body(31);
            return lists.get(a).many();
        }

        long nth(int k) {
            body(32);
            long w = lists.get(a).nth(k);
            return fits(w) ? w : 0;
        }

        int score(long w) {
            body(33);
            return lists.get(a).score(w) + 1;
        }
    }

    private final class JoinedWords extends Words {
        int a;
        int b;

        boolean allows(long w) {
            body(40);
            return lists.get(a).allows(w) && lists.get(b).allows(w);
        }

        int many() {
            body(41);
            return lists.get(a).many();
        }

        long nth(int k) {
            body(42);
            long w = lists.get(a).nth(k);
            return w != 0 && lists.get(b).allows(w) ? w : 0;
        }

        int score(long w) {
            body(43);
            return lists.get(a).score(w) + lists.get(b).score(w);
        }
    }

    /** A searching by its beginning: what it begins with, and how far it was gone. */
    private static final class Quest {
        Board board;
        List<Run> runs;
        List<List<Candidate>> candidates;
        int[][] letters;
        int total;
        int stepsBefore;
        List<long[]> fillings;
        int steps;
        boolean spent;
    }

    private final Board[] boards = new Board[4];
    private final List<Words> lists = new ArrayList<>();
    private final List<Integer> weights = new ArrayList<>();
    private final List<Integer> traced = new ArrayList<>();
    private final int[] times = new int[6];
    private int finding;
    private int movedRows;
    private int stepsEver;
    private int[] told = new int[4];
    private List<long[]> firsts = new ArrayList<>();
    private Quest pending;

    private void body(int b) {
        traced.add(b);
    }

    private int met(int kind) {
        finding = kind;
        times[kind]++;
        return -10 - kind;
    }

    private int call(IntSupplier what) {
        finding = 0;
        try {
            return what.getAsInt();
        } catch (NullPointerException e) {
            return met(1);
        } catch (ArrayIndexOutOfBoundsException e) {
            return met(2);
        } catch (ClassCastException e) {
            return met(3);
        } catch (NegativeArraySizeException e) {
            return met(4);
        } catch (ArithmeticException e) {
            return met(5);
        }
    }

    private int bad() {
        finding = 0;
        return BAD;
    }

    private int changed(int answer) {
        if (answer >= -1 && finding == 0) {
            pending = null;
        }
        return answer;
    }

    static String text(long w) {
        StringBuilder text = new StringBuilder();
        for (long rest = w; rest != 0; rest >>>= 5) {
            int letter = (int) (rest & 31);
            text.append(letter == 27 ? '?' : letter == 0 || letter > 27 ? '!' : (char) ('A' + letter - 1));
        }
        return text.toString();
    }

    private static boolean isWord(long w) {
        return text(w).matches("[A-Z]{2,7}");
    }

    private boolean noGrid(int g) {
        return g < 0 || g > 3;
    }

    private boolean noList(int l) {
        return l < 0 || l >= lists.size();
    }

    int grid(int g, int h, int w) {
        if (noGrid(g) || h > 7 || w > 7) {
            return bad();
        }
        return changed(call(() -> {
            Board board = new Board();
            Square[] none = new Square[w];
            board.rows = new Square[h][none.length];
            board.width = w;
            for (Square[] row : board.rows) {
                java.util.Arrays.fill(row, new Square(0, false, false));
            }
            boards[g] = board;
            return h;
        }));
    }

    int cut(int g, int r, int n) {
        if (noGrid(g) || n < -1) {
            return bad();
        }
        int answer = call(() -> {
            Square[] row = boards[g].rows[r];
            int had = row.length;
            if (n == -1) {
                boards[g].rows[r] = null;
            } else {
                if (n > had) {
                    throw new ArrayIndexOutOfBoundsException();
                }
                boards[g].rows[r] = java.util.Arrays.copyOf(row, n);
            }
            return had;
        });
        return changed(answer);
    }

    int letter(int g, int r, int c, int v) {
        if (noGrid(g) || v < 0 || v > 26) {
            return bad();
        }
        return changed(call(() -> {
            Square was = boards[g].rows[r][c];
            if (was.sign == 27) {
                return STATE;
            }
            boards[g].rows[r][c] = new Square(v, was.right, was.below);
            return was.sign;
        }));
    }

    int black(int g, int r, int c, boolean on) {
        if (noGrid(g)) {
            return bad();
        }
        return changed(call(() -> {
            Square was = boards[g].rows[r][c];
            int sign = on ? 27 : was.sign == 27 ? 0 : was.sign;
            boards[g].rows[r][c] = new Square(sign, was.right, was.below);
            return was.sign;
        }));
    }

    int bar(int g, int r, int c, boolean below, boolean on) {
        if (noGrid(g)) {
            return bad();
        }
        return changed(call(() -> {
            Square was = boards[g].rows[r][c];
            if (below && r == boards[g].rows.length - 1 || !below && c == boards[g].width - 1) {
                return STATE;
            }
            boards[g].rows[r][c] = new Square(was.sign, below ? was.right : on, below ? on : was.below);
            return (below ? was.below : was.right) ? 1 : 0;
        }));
    }

    int at(int g, int r, int c) {
        return noGrid(g) ? bad() : call(() -> boards[g].rows[r][c].told());
    }

    int list(int kind, int a, int b, long p) {
        boolean badPattern = kind == 3 && !text(p).matches("[A-Z?]{2,7}");
        if (kind < 0 || kind > 4 || kind >= 3 && noList(a) || kind == 4 && noList(b) || badPattern) {
            return bad();
        }
        finding = 0;
        int weight = 1 + (kind >= 3 ? weights.get(a) : 0) + (kind == 4 ? weights.get(b) : 0);
        if (lists.size() == 16 || weight > 30) {
            return FULL;
        }
        Words words;
        if (kind == 3) {
            PatternWords made = new PatternWords();
            made.a = a;
            made.pattern = text(p);
            words = made;
        } else if (kind == 4) {
            JoinedWords made = new JoinedWords();
            made.a = a;
            made.b = b;
            words = made;
        } else {
            words = kind == 0 ? new PlainWords() : kind == 1 ? new ScoredWords() : new BannedWords();
        }
        words.kind = kind;
        lists.add(words);
        weights.add(weight);
        return changed(lists.size() - 1);
    }

    int drop(int l) {
        if (noList(l)) {
            return bad();
        }
        return changed(call(() -> {
            int kind = lists.get(l).kind;
            lists.set(l, null);
            return kind >= 0 ? 1 : 0;
        }));
    }

    int word(int l, long w, int score) {
        if (noList(l) || !isWord(w) || score < -100 || score > 100) {
            return bad();
        }
        return changed(call(() -> {
            Words any = lists.get(l);
            any.getClass();
            PlainWords words = (PlainWords) any;
            int place = words.indexOf(w);
            if (place < 0) {
                place = words.words.length;
                if (place == 40) {
                    return FULL;
                }
                words.words = java.util.Arrays.copyOf(words.words, place + 1);
                words.scores = java.util.Arrays.copyOf(words.scores, place + 1);
                words.words[place] = w;
            }
            words.scores[place] = score;
            return words.words.length;
        }));
    }

    int ask(int l, int act, long w) {
        if (noList(l) || act < 0 || act > 4 || act == 2 || (act == 0 || act == 3) && !isWord(w)) {
            return bad();
        }
        return call(() -> {
            Words words = lists.get(l);
            return act == 0 ? (words.allows(w) ? 1 : 0) : act == 1 ? words.many() : act == 3 ? words.score(w) : words.kind;
        });
    }

    long wordOf(int l, int k) {
        long[] said = new long[1];
        if (noList(l)) {
            bad();
            return 0;
        }
        call(() -> {
            said[0] = lists.get(l).nth(k);
            return 0;
        });
        return said[0];
    }

    int uses(int g, boolean down, int l) {
        if (noGrid(g) || l != -1 && noList(l)) {
            return bad();
        }
        return changed(call(() -> {
            int took = down ? boards[g].down : boards[g].across;
            if (down) {
                boards[g].down = l;
            } else {
                boards[g].across = l;
            }
            return took;
        }));
    }

    /** All runs of both directions, walked from every square that nothing leads to. */
    private static List<Run> runs(Board board) {
        List<Run> all = new ArrayList<>();
        for (int way = 0; way < 2; way++) {
            int dr = way;
            int dc = 1 - way;
            for (int r = 0; r < 7; r++) {
                for (int c = 0; c < 7; c++) {
                    boolean ledTo = linked(board, r - dr, c - dc, way);
                    if (!board.white(r, c) || ledTo || !linked(board, r, c, way)) {
                        continue;
                    }
                    Run run = new Run();
                    run.row = r;
                    run.col = c;
                    run.down = way == 1;
                    int y = r;
                    int x = c;
                    run.squares.add(new int[] {y, x});
                    while (linked(board, y, x, way)) {
                        y += dr;
                        x += dc;
                        run.squares.add(new int[] {y, x});
                    }
                    all.add(run);
                }
            }
        }
        all.sort(Comparator.<Run>comparingInt(run -> run.row).thenComparingInt(run -> run.col)
            .thenComparing(run -> run.down));
        Set<Integer> begun = new HashSet<>();
        for (Run run : all) {
            begun.add(10 * run.row + run.col);
            run.number = begun.size();
        }
        return all;
    }

    private static boolean linked(Board board, int r, int c, int way) {
        if (!board.white(r, c) || !board.white(r + way, c + 1 - way)) {
            return false;
        }
        return way == 0 ? !board.rows[r][c].right : !board.rows[r][c].below;
    }

    private static Run nth(List<Run> runs, int k) {
        return runs.toArray(new Run[0])[k];
    }

    int entries(int g) {
        return noGrid(g) ? bad() : call(() -> runs(boards[g]).size());
    }

    int entry(int g, int k, int what) {
        if (noGrid(g) || what < 0 || what > 4) {
            return bad();
        }
        return call(() -> {
            Run run = nth(runs(boards[g]), k);
            int[] all = {run.row, run.col, run.down ? 1 : 0, run.squares.size(), run.number};
            return all[what];
        });
    }

    private static long read(Board board, Run run) {
        long w = 0;
        int place = 0;
        for (int[] square : run.squares) {
            long sign = board.rows[square[0]][square[1]].sign;
            if (sign == 0) {
                return 0;
            }
            w += sign << 5 * place++;
        }
        return w;
    }

    long stands(int g, int k) {
        long[] said = new long[1];
        if (noGrid(g)) {
            bad();
            return 0;
        }
        call(() -> {
            said[0] = read(boards[g], nth(runs(boards[g]), k));
            return 0;
        });
        return said[0];
    }

    int crossing(int g, int a, int b) {
        if (noGrid(g)) {
            return bad();
        }
        return call(() -> {
            Run one = nth(runs(boards[g]), a);
            Run other = nth(runs(boards[g]), b);
            if (one.down == other.down) {
                return NONE;
            }
            Run across = one.down ? other : one;
            Run down = one.down ? one : other;
            int x = down.col - across.col;
            int y = across.row - down.row;
            if (x < 0 || x >= across.squares.size() || y < 0 || y >= down.squares.size()) {
                return NONE;
            }
            return one.down ? 8 * y + x : 8 * x + y;
        });
    }

    private Quest newQuest(Board board) {
        Quest quest = new Quest();
        quest.board = board;
        quest.runs = runs(board);
        quest.candidates = new ArrayList<>();
        quest.letters = new int[7][7];
        for (int r = 0; r < 7; r++) {
            for (int c = 0; c < 7; c++) {
                quest.letters[r][c] = board.white(r, c) ? board.rows[r][c].sign : 0;
            }
        }
        for (Run run : quest.runs) {
            int l = run.down ? board.down : board.across;
            Words words = l < 0 ? null : lists.get(l);
            List<Candidate> some = new ArrayList<>();
            int many = words.many();
            for (int k = 0; k < many; k++) {
                long w = words.nth(k);
                if (w != 0 && text(w).length() == run.squares.size() && agrees(quest.letters, run, w)) {
                    some.add(new Candidate(w, words.score(w)));
                }
            }
            some.sort((x, y) -> x.score != y.score ? y.score - x.score : text(x.word).compareTo(text(y.word)));
            quest.candidates.add(some);
            quest.total += some.size();
        }
        return quest;
    }

    private static boolean agrees(int[][] letters, Run run, long w) {
        String text = text(w);
        for (int i = 0; i < text.length(); i++) {
            int[] square = run.squares.get(i);
            int letter = letters[square[0]][square[1]];
            if (letter != 0 && letter != text.charAt(i) - 'A' + 1) {
                return false;
            }
        }
        return true;
    }

    private static int[][] with(int[][] letters, Run run, long w) {
        int[][] more = new int[7][];
        for (int r = 0; r < 7; r++) {
            more[r] = letters[r].clone();
        }
        for (int i = 0; i < run.squares.size(); i++) {
            more[run.squares.get(i)[0]][run.squares.get(i)[1]] = text(w).charAt(i) - 'A' + 1;
        }
        return more;
    }

    /** From the beginning, with all steps that were ever allowed. */
    private static void search(Quest quest, int most, int steps) {
        List<Integer> order = new ArrayList<>();
        for (int e = 0; e < quest.runs.size(); e++) {
            order.add(e);
        }
        order.sort(Comparator.comparingInt(e -> quest.candidates.get(e).size()));
        quest.fillings = new ArrayList<>();
        quest.steps = 0;
        quest.spent = false;
        try {
            take(quest, order, 0, quest.letters, new long[order.size()], new int[] {most, steps + quest.stepsBefore});
        } catch (Spent e) {
            quest.spent = true;
        } catch (Enough e) {
            // the fillings are told by the quest itself
        }
        quest.steps -= quest.stepsBefore;
        quest.stepsBefore += quest.steps;
    }

    private static void take(Quest quest, List<Integer> order, int n, int[][] letters, long[] set, int[] limits) {
        if (n == order.size()) {
            quest.fillings.add(set.clone());
            if (quest.fillings.size() == limits[0]) {
                throw new Enough();
            }
            return;
        }
        int e = order.get(n);
        for (Candidate candidate : quest.candidates.get(e)) {
            if (quest.steps == limits[1]) {
                throw new Spent();
            }
            quest.steps++;
            boolean twice = false;
            for (int i = 0; i < n; i++) {
                twice |= set[order.get(i)] == candidate.word;
            }
            if (!twice && agrees(letters, quest.runs.get(e), candidate.word)) {
                set[e] = candidate.word;
                take(quest, order, n + 1, with(letters, quest.runs.get(e), candidate.word), set, limits);
            }
        }
        set[e] = 0;
    }

    private void tell(Quest quest) {
        told = new int[] {quest.steps, quest.fillings.size(), quest.runs.size(), quest.total};
        stepsEver += quest.steps;
    }

    private int fillOn(Quest quest, int steps) {
        search(quest, 1, steps);
        tell(quest);
        pending = quest.spent ? quest : null;
        if (quest.fillings.isEmpty()) {
            return quest.spent ? SPENT : 0;
        }
        long[] words = quest.fillings.get(0);
        for (int e = 0; e < words.length; e++) {
            for (int i = 0; i < quest.runs.get(e).squares.size(); i++) {
                int[] at = quest.runs.get(e).squares.get(i);
                Square was = quest.board.rows[at[0]][at[1]];
                quest.board.rows[at[0]][at[1]] = new Square(text(words[e]).charAt(i) - 'A' + 1, was.right, was.below);
            }
        }
        return 1;
    }

    int fill(int g, int steps) {
        if (noGrid(g) || steps < 1 || steps > 5000) {
            return bad();
        }
        pending = null;
        return call(() -> fillOn(newQuest(boards[g]), steps));
    }

    int goOn(int steps) {
        if (steps < 1 || steps > 5000) {
            return bad();
        }
        finding = 0;
        return pending == null ? STATE : fillOn(pending, steps);
    }

    int solve(int g, int most, int steps) {
        if (noGrid(g) || most < 1 || most > 1000 || steps < 1 || steps > 5000) {
            return bad();
        }
        return call(() -> {
            Quest quest = newQuest(boards[g]);
            search(quest, most, steps);
            tell(quest);
            firsts = quest.fillings;
            return quest.spent ? SPENT : quest.fillings.size();
        });
    }

    long first(int k, int e) {
        finding = 0;
        boolean there = k >= 0 && k <= 2 && k < firsts.size() && e >= 0 && e < firsts.get(k).length;
        return there ? firsts.get(k)[e] : 0;
    }

    int searched(int what) {
        finding = 0;
        return what < 0 || what > 3 ? BAD : told[what];
    }

    private static int[][] covers(Board board) {
        int[][] covers = new int[7][7];
        for (Run run : runs(board)) {
            for (int[] square : run.squares) {
                covers[square[0]][square[1]]++;
            }
        }
        return covers;
    }

    private static int whites(Board board, int covered) {
        int[][] covers = covers(board);
        int n = 0;
        for (int r = 0; r < 7; r++) {
            for (int c = 0; c < 7; c++) {
                n += board.white(r, c) && (covered < 0 || covers[r][c] == covered) ? 1 : 0;
            }
        }
        return n;
    }

    private static int sink(Board board, boolean[][] sunk, int r, int c) {
        if (!board.white(r, c) || sunk[r][c]) {
            return 0;
        }
        sunk[r][c] = true;
        sink(board, sunk, r - 1, c);
        sink(board, sunk, r + 1, c);
        sink(board, sunk, r, c - 1);
        sink(board, sunk, r, c + 1);
        return 1;
    }

    private static int islands(Board board) {
        boolean[][] sunk = new boolean[7][7];
        int n = 0;
        for (int i = 0; i < 49; i++) {
            n += sink(board, sunk, i / 7, i % 7);
        }
        return n;
    }

    private static int alike(Board board) {
        for (int r = 0; r < 7; r++) {
            for (int c = 0; c < 7; c++) {
                if (board.white(r, c) && !board.white(board.rows.length - 1 - r, board.width - 1 - c)) {
                    return 0;
                }
            }
        }
        return 1;
    }

    private static int squares(Board board, int least, int most) {
        int n = 0;
        for (Square[] row : board.rows) {
            if (row != null) {
                for (Square square : row) {
                    n += square.sign >= least && square.sign <= most ? 1 : 0;
                }
            }
        }
        return n;
    }

    int judge(int g, int what) {
        if (noGrid(g) || what < 0 || what > 10) {
            return bad();
        }
        return call(() -> {
            Board board = boards[g];
            List<Run> runs = runs(board);
            switch (what) {
                case 0: return squares(board, 0, 27);
                case 1: return whites(board, -1);
                case 2: return whites(board, 1);
                case 3: return whites(board, 0);
                case 4: return islands(board);
                case 5: return runs.stream().mapToInt(run -> run.squares.size()).min().orElse(0);
                case 6: return alike(board);
                case 7: return squares(board, 1, 26);
                case 8: return whites(board, -1) / runs.size();
                case 9: return board.rows.length;
                default: return board.width;
            }
        });
    }

    int move(int g, int r, int c, int to, int s, int d, int h, int w) {
        if (noGrid(g) || noGrid(to) || h < 0 || h > 7 || w < 0 || w > 7) {
            return bad();
        }
        pending = null;
        movedRows = 0;
        return call(() -> {
            for (int i = 0; i < h; i++) {
                Square[] from = boards[g].rows[r + i];
                Square[] into = boards[to].rows[s + i];
                System.arraycopy(from, c, into, d, w);
                for (int x = 0; x < into.length; x++) {
                    boolean right = into[x].right && x != boards[to].width - 1;
                    boolean below = into[x].below && s + i != boards[to].rows.length - 1;
                    into[x] = new Square(into[x].sign, right, below);
                }
                movedRows++;
            }
            return h;
        });
    }

    int moved() {
        finding = 0;
        return movedRows;
    }

    /** Each bar is carried as the two squares that it is between. */
    private interface Carry {
        int[] to(int r, int c);
    }

    private static void carry(Board board, int h, int w, Carry carry) {
        int[][] signs = new int[7][7];
        boolean[][] right = new boolean[7][7];
        boolean[][] below = new boolean[7][7];
        for (int r = 0; r < board.rows.length; r++) {
            for (int c = 0; c < board.width; c++) {
                int[] here = carry.to(r, c);
                Square square = board.rows[r][c];
                signs[here[0]][here[1]] = square.sign;
                if (square.right) {
                    between(right, below, here, carry.to(r, c + 1));
                }
                if (square.below) {
                    between(right, below, here, carry.to(r + 1, c));
                }
            }
        }
        board.rows = new Square[h][w];
        board.width = w;
        for (int r = 0; r < h; r++) {
            for (int c = 0; c < w; c++) {
                board.rows[r][c] = new Square(signs[r][c], right[r][c], below[r][c]);
            }
        }
    }

    private static void between(boolean[][] right, boolean[][] below, int[] one, int[] other) {
        int[] upper = one[0] + one[1] < other[0] + other[1] ? one : other;
        if (one[0] == other[0]) {
            right[upper[0]][upper[1]] = true;
        } else {
            below[upper[0]][upper[1]] = true;
        }
    }

    private static boolean isCut(Board board) {
        boolean cut = false;
        for (Square[] row : board.rows) {
            cut |= row.length != board.width;
        }
        return cut;
    }

    int turn(int g) {
        if (noGrid(g)) {
            return bad();
        }
        return changed(call(() -> {
            Board board = boards[g];
            if (isCut(board)) {
                return STATE;
            }
            int h = board.rows.length;
            carry(board, board.width, h, (r, c) -> new int[] {c, h - 1 - r});
            return board.rows.length;
        }));
    }

    int mirror(int g) {
        if (noGrid(g)) {
            return bad();
        }
        return changed(call(() -> {
            Board board = boards[g];
            if (isCut(board)) {
                return STATE;
            }
            int w = board.width;
            carry(board, board.rows.length, w, (r, c) -> new int[] {r, w - 1 - c});
            return w;
        }));
    }

    int trace(int i) {
        List<Integer> back = new ArrayList<>(traced.subList(Math.max(0, traced.size() - 100), traced.size()));
        Collections.reverse(back);
        return i < 0 || i >= back.size() ? NONE : back.get(i);
    }

    int finding() {
        return finding;
    }

    int found(int kind) {
        return kind < 1 || kind > 5 ? BAD : times[kind];
    }

    long digest(int g) {
        if (noGrid(g) || boards[g] == null) {
            return 0;
        }
        long d = 7;
        for (Square[] row : boards[g].rows) {
            d = 31 * d + (row == null ? -1 : row.length);
            if (row != null) {
                for (Square square : row) {
                    d = 31 * d + square.told();
                }
            }
        }
        return d;
    }

    int count(int what) {
        int there = 0;
        for (Words words : lists) {
            there += words == null ? 0 : 1;
        }
        int standing = 0;
        for (Board board : boards) {
            standing += board == null ? 0 : 1;
        }
        int[] all = {lists.size(), there, standing, stepsEver, traced.size()};
        return what < 0 || what >= all.length ? BAD : all[what];
    }
}
