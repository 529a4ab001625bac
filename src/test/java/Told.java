import java.util.NoSuchElementException;

/** Puts texts on an object's tape, and counts answers that are not as due. */
final class Told {
    private final String what;
    private int checks = 0;
    private int wrong = 0;

    Told(String what) {
        this.what = what;
    }

    /** The tape is emptied and then holds the text alone (characters 1 to 255, 240 at most). */
    static void tape(CrossedFavours x, String text) {
        x.end(0);
        for (int from = 0; from < text.length(); from += 20) {
            x.feed(word(text, from), word(text, from + 4), word(text, from + 8), word(text, from + 12), word(text, from + 16));
        }
    }

    static int word(String text, int from) {
        int word = 0;
        for (int i = from; i < from + 4; i++) {
            word = word << 8 | (i < text.length() ? text.charAt(i) & 255 : 0);
        }
        return word;
    }

    static int text(CrossedFavours x, int sort, String text) {
        tape(x, text);
        return x.text(sort);
    }

    static CrossedFavours village(String text) {
        CrossedFavours x = new CrossedFavours();
        if (text(x, 0, text) < 2) {
            throw new IllegalArgumentException("no village: " + text);
        }
        return x;
    }

    static int fault(int sort, String text) {
        CrossedFavours x = new CrossedFavours();
        tape(x, text);
        return x.fault(sort);
    }

    /** What house answers; Long.MIN_VALUE: it threw as the document says. */
    static long house(CrossedFavours x, int house, int sort) {
        try {
            return x.house(house, sort);
        } catch (NoSuchElementException e) {
            return Long.MIN_VALUE;
        }
    }

    void due(String call, long want, long got) {
        checks++;
        if (got != want) {
            wrong++;
            System.out.println(what + ": " + call + " answered " + got + ", due is " + want);
        }
    }

    void due(String call, boolean want, boolean got) {
        due(call, want ? 1 : 0, got ? 1 : 0);
    }

    void close() {
        System.out.println(what + ": " + checks + " checks, " + wrong + " wrong");
        if (wrong != 0 || checks == 0) {
            System.exit(1);
        }
    }
}
