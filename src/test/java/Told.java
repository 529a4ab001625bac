import java.io.IOException;
import java.io.UncheckedIOException;
import java.nio.file.Files;
import java.nio.file.Path;
import java.util.NoSuchElementException;

/** Puts texts on an object's tape, and counts answers that are not as due. */
final class Told {
    /** What house answers here if it threw as the document says. */
    static final long THROWN = Long.MIN_VALUE;
    private static final String DOCUMENT = document();

    private final String what;
    private String sentence = "";
    private int checks = 0;
    private int checksOfSentence = 1;
    private int wrong = 0;

    Told(String what) {
        this.what = what;
    }

    /** The tape is emptied and then holds the text alone (characters 1 to 255, 240 at most). */
    static void tape(CrossedFavours x, String text) {
        x.end(0);
        for (int from = 0; from < text.length(); from += 20) {
            x.feed(word(text, from), word(text, from + 4), word(text, from + 8), word(text, from + 12), word(text, from + 16));
        }
    }

    static int word(String text, int from) {
        int word = 0;
        for (int i = from; i < from + 4; i++) {
            word = word << 8 | (i < text.length() ? text.charAt(i) & 255 : 0);
        }
        return word;
    }

    static int text(CrossedFavours x, int sort, String text) {
        tape(x, text);
        return x.text(sort);
    }

    static CrossedFavours village(String text) {
        CrossedFavours x = new CrossedFavours();
        if (text(x, 0, text) < 2) {
            throw new IllegalArgumentException("no village: " + text);
        }
        return x;
    }

    static int fault(int sort, String text) {
        CrossedFavours x = new CrossedFavours();
        tape(x, text);
        return x.fault(sort);
    }

    /** What house answers; THROWN: it threw as the document says. */
    static long house(CrossedFavours x, int house, int sort) {
        try {
            return x.house(house, sort);
        } catch (NoSuchElementException e) {
            return THROWN;
        }
    }

    /** An object with a village and these songs. */
    static CrossedFavours singing(String text, String... songs) {
        CrossedFavours x = village(text);
        for (String song : songs) {
            if (text(x, 2, song) < 0) {
                throw new IllegalArgumentException("no song: " + song);
            }
        }
        return x;
    }

    /** An object with a village, and a law that holds. */
    static CrossedFavours ruled(String text, String law) {
        CrossedFavours x = village(text);
        int number = text(x, 1, law);
        if (number < 0 || !x.law(number)) {
            throw new IllegalArgumentException("no law: " + law);
        }
        return x;
    }

    /** The words of the document, if it is told where that is: -Ddocument. */
    private static String document() {
        String path = System.getProperty("document");
        try {
            return path == null ? null : Files.readString(Path.of(path)).replaceAll("\\s+", " ");
        } catch (IOException e) {
            throw new UncheckedIOException(e);
        }
    }

    /** The checks that come now are of this sentence, told in the document's own words. */
    void says(String words) {
        endSentence();
        sentence = words;
        checksOfSentence = 0;
        if (DOCUMENT != null && !DOCUMENT.contains(words)) {
            wrong++;
            System.out.println(what + ": the document does not say: " + words);
        }
    }

    private void endSentence() {
        if (checksOfSentence == 0) {
            wrong++;
            System.out.println(what + ": nothing is checked of: " + sentence);
        }
    }

    void due(String call, long want, long got) {
        checks++;
        checksOfSentence++;
        if (got != want) {
            wrong++;
            String of = sentence.isEmpty() ? "" : " (" + sentence + ")";
            System.out.println(what + ": " + call + " answered " + got + ", due is " + want + of);
        }
    }

    /** Of two tellings, which may be long, the first line that is not as due. */
    void due(String call, String want, String got) {
        String[] wanted = want.split("\n");
        String[] gotten = got.split("\n");
        int at = 0;
        while (at < wanted.length && at < gotten.length && wanted[at].equals(gotten[at])) {
            at++;
        }
        if (!want.equals(got)) {
            System.out.println(what + ": " + call + " led to " + (at < gotten.length ? gotten[at] : "nothing")
                + ", due is " + (at < wanted.length ? wanted[at] : "nothing"));
        }
        due(call, true, want.equals(got));
    }

    void due(String call, boolean want, boolean got) {
        due(call, want ? 1 : 0, got ? 1 : 0);
    }

    void close() {
        endSentence();
        System.out.println(what + ": " + checks + " checks, " + wrong + " wrong");
        if (wrong != 0 || checks == 0) {
            System.exit(1);
        }
    }
}
