import java.io.IOException;
import java.nio.file.Files;
import java.nio.file.Path;
import java.util.ArrayList;
import java.util.List;

/** The document's sentences that tests are made for: each must stand there, and none may be left without a test. */
final class Sentences {
    private static final Path DOCUMENT = Path.of("../shared/DOC.md");
    private static final int PROMISES = 32;

    private static final class Sentence {
        final int promise;
        final String text;
        int answers;

        Sentence(int promise, String text) {
            this.promise = promise;
            this.text = text;
        }

        @Override
        public String toString() {
            return "promise " + promise + ", '" + text + "'";
        }
    }

    private final List<Sentence> all = new ArrayList<>();
    private Sentence now;
    private Desk latest;
    private int wrong;

    /** What is tested from here on is this sentence, at this promise. */
    void begin(int promise, String text) {
        now = new Sentence(promise, plain(text));
        all.add(now);
    }

    void called(Desk desk) {
        latest = desk;
    }

    void due(long got, long want) {
        now.answers++;
        if (got != want) {
            wrong("answered " + got + ", due is " + want + ", behind these calls:\n" + latest.log());
        }
    }

    private void wrong(String what) {
        wrong++;
        System.out.println((now == null ? "" : now + ": ") + what);
    }

    private static String plain(String text) {
        return text.replaceAll("\\s+", " ").trim();
    }

    /** What stands below a heading, but for the signature, the code fences and the marks between parts. */
    private static String section(String document, String from) {
        int begin = document.indexOf("\n" + from);
        if (begin < 0) {
            return "";
        }
        int line = document.indexOf('\n', begin + 1);
        int end = document.indexOf("\n## ", line);
        String text = document.substring(line, end < 0 ? document.length() : end);
        text = text.replaceAll("(?m)^```\\w*$", "").replaceAll("(?m)^Ahead of the calls .*$", "")
            .replaceAll("={8} \\d ", "");
        return plain(text.replaceAll("(?m)^`[^`]*`: ?", ""));
    }

    private void check(String document) {
        String terms = section(document, "## Terms");
        boolean[] termsTold = new boolean[terms.length()];
        for (int promise = 1; promise <= PROMISES; promise++) {
            String text = section(document, "## Promise " + promise + ":");
            boolean[] told = new boolean[text.length()];
            for (Sentence sentence : all) {
                if (sentence.promise == promise && !mark(text, told, sentence) && !mark(terms, termsTold, sentence)) {
                    wrong(sentence + " does not stand in the document");
                }
            }
            untold("promise " + promise, text, told);
        }
        untold("the terms", terms, termsTold);
    }

    private static boolean mark(String text, boolean[] told, Sentence sentence) {
        int place = text.indexOf(sentence.text);
        for (int i = place; place >= 0 && i < place + sentence.text.length(); i++) {
            told[i] = true;
        }
        return place >= 0;
    }

    /** Prints what no test is made for; signs between the sentences need none. */
    private void untold(String where, String text, boolean[] told) {
        StringBuilder rest = new StringBuilder();
        for (int i = 0; i < text.length(); i++) {
            rest.append(told[i] ? '\n' : text.charAt(i));
        }
        String left = rest.toString().replaceAll("[\\n]+", "\n");
        if (text.isEmpty() || left.chars().anyMatch(Character::isLetterOrDigit)) {
            wrong(where + " has no tests of: " + left);
        }
    }

    void end(String name) throws IOException {
        for (Sentence sentence : all) {
            if (sentence.answers == 0) {
                wrong(sentence + " has a test that looks at nothing");
            }
        }
        now = null;
        if (Files.exists(DOCUMENT)) {
            check(Files.readString(DOCUMENT));
        } else {
            System.out.println(name + ": the document is not here, sentences are not compared with it");
        }
        System.out.println(name + ": " + (wrong == 0 ? all.size() + " sentences hold" : wrong + " things are not as due"));
        if (wrong != 0) {
            System.exit(1);
        }
    }
}
