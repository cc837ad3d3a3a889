/** Counts and prints the calls whose answers are not the ones that are due. */
final class Due {
    private int wrong;
    private String promise = "";

    void promise(int number, String name) {
        promise = "promise " + number + " (" + name + "): ";
    }

    void is(String call, long got, long want) {
        if (got != want) {
            wrong++;
            System.out.println(promise + call + " answered " + got + ", due is " + want);
        }
    }

    /** The trace from its latest number backwards. */
    void trace(WordGrid x, int... latestFirst) {
        for (int i = 0; i < latestFirst.length; i++) {
            is("trace(" + i + ")", x.trace(i), latestFirst[i]);
        }
    }

    void end(String name) {
        System.out.println(wrong == 0 ? name + ": all answers are as due" : name + ": " + wrong + " answers are not as due");
        if (wrong != 0) {
            System.exit(1);
        }
    }

    /** A word of capital letters as a long; '?' is any letter. */
    static long w(String text) {
        long word = 0;
        for (int i = 0; i < text.length(); i++) {
            char letter = text.charAt(i);
            word |= (long) (letter == '?' ? 27 : letter - 'A' + 1) << 5 * i;
        }
        return word;
    }

    /** A new grid by its rows: '.' no sign, '#' black, or a letter. */
    static void draw(WordGrid x, int g, String... rows) {
        x.grid(g, rows.length, rows.length == 0 ? 0 : rows[0].length());
        for (int r = 0; r < rows.length; r++) {
            for (int c = 0; c < rows[r].length(); c++) {
                char sign = rows[r].charAt(c);
                if (sign == '#') {
                    x.black(g, r, c, true);
                } else if (sign != '.') {
                    x.letter(g, r, c, sign - 'A' + 1);
                }
            }
        }
    }

    /** A new list of words: its number. */
    static int words(WordGrid x, int kind, String... words) {
        int l = x.list(kind, 0, 0, 0);
        for (String word : words) {
            x.word(l, w(word), 0);
        }
        return l;
    }
}
