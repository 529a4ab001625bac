import java.io.IOException;
import java.nio.file.DirectoryStream;
import java.nio.file.Files;
import java.nio.file.Path;
import java.util.regex.Matcher;
import java.util.regex.Pattern;

/**
 * Every place of the document that names a boundary (a refusal, a range, a most) stands in words that some test takes up by
 * says. It looks at the document and at the tests, not at the class.
 */
public final class DocumentTest {
    private static final Told TOLD = new Told("document");
    /** A refusal from its answer up to its end. */
    private static final String REFUSAL = "(NONE|HIDDEN|False|-2|NoSuchElementException)(: | likewise| for others)[^.]*\\.";
    /** A range or a most, with some of the words ahead of it. */
    private static final String BOUND = ".{7}(-?[\\d,]+ \\.\\. [\\d,]+|at most|modulo 100|of several the \\w+|none: 0|going round)";

    private DocumentTest() {
    }

    public static void main(String[] args) throws IOException {
        String document = System.getProperty("document");
        String tests = System.getProperty("tests");
        if (document == null || tests == null) {
            System.out.println("document: not looked at, as -Ddocument and -Dtests are not told");
            return;
        }
        String whole = Files.readString(Path.of(document)).replaceAll("\\s+", " ");
        String said = said(Path.of(tests));
        int terms = whole.indexOf("## Terms");
        int promises = whole.indexOf("## Promise 1:");
        int end = whole.indexOf("## Not promised");
        TOLD.due("the document's parts are in order", true, terms > 0 && promises > terms && end > promises);
        taken(whole.substring(terms, promises), BOUND, said);
        taken(whole.substring(promises, end), REFUSAL, said);
        TOLD.close();
    }

    private static void taken(String part, String places, String said) {
        Matcher place = Pattern.compile(places).matcher(part);
        while (place.find()) {
            TOLD.due("a test says: " + place.group(), true, said.contains(place.group()));
        }
    }

    /** What stands in all calls of says, one behind the other. */
    private static String said(Path tests) throws IOException {
        StringBuilder said = new StringBuilder();
        try (DirectoryStream<Path> files = Files.newDirectoryStream(tests, "*Test.java")) {
            for (Path file : files) {
                Matcher call = Pattern.compile("says\\(((\\s|\\+|\"[^\"]*\")+)\\);").matcher(Files.readString(file));
                while (call.find()) {
                    Matcher words = Pattern.compile("\"([^\"]*)\"").matcher(call.group(1));
                    while (words.find()) {
                        said.append(words.group(1));
                    }
                    said.append("\n");
                }
            }
        }
        return said.toString();
    }
}
