import java.io.IOException;
import java.lang.reflect.InvocationTargetException;
import java.lang.reflect.Method;
import java.lang.reflect.Modifier;
import java.nio.file.DirectoryStream;
import java.nio.file.Files;
import java.nio.file.Path;
import java.util.regex.Matcher;
import java.util.regex.Pattern;

/** What README.md shows is so: its helper is the one that the tests use, and its examples answer what stands behind them. */
public final class ReadmeTest {
    private static final Told TOLD = new Told("readme");
    private static final Pattern BLOCK = Pattern.compile("```java\\n(.*?)```", Pattern.DOTALL);
    private static final Pattern TAPE = Pattern.compile("tape\\(x, \"([^\"]*)\"\\);");
    private static final Pattern CALL = Pattern.compile("x\\.(\\w+)\\(([^)]*)\\);\\s+// (-?\\d+|true|false)\\b.*");
    private static final String NEW = "CrossedFavours x = new CrossedFavours();";

    private ReadmeTest() {
    }

    public static void main(String[] args) throws IOException, IllegalAccessException, InvocationTargetException {
        String readme = System.getProperty("readme");
        String tests = System.getProperty("tests");
        if (readme == null || tests == null) {
            System.out.println("readme: not looked at, as -Dreadme and -Dtests are not told");
            return;
        }
        String page = Files.readString(Path.of(readme));
        String helper = Files.readString(Path.of(tests, "Told.java"));
        int examples = 0;
        Matcher block = BLOCK.matcher(page);
        while (block.find()) {
            if (block.group(1).startsWith(NEW)) {
                example(block.group(1));
                examples++;
            } else {
                stands(block.group(1), helper);
            }
        }
        TOLD.due("there are examples", true, examples > 0);
        everyCall(page);
        everyTest(page, tests);
        TOLD.close();
    }

    private static void stands(String block, String helper) {
        for (String line : block.split("\\n")) {
            TOLD.due("Told.java has: " + line, true, helper.contains(line.strip()));
        }
    }

    private static void example(String block) throws IllegalAccessException, InvocationTargetException {
        CrossedFavours x = new CrossedFavours();
        String[] lines = block.split("\\n");
        for (int i = 1; i < lines.length; i++) {
            Matcher tape = TAPE.matcher(lines[i]);
            Matcher call = CALL.matcher(lines[i]);
            if (tape.matches()) {
                Told.tape(x, tape.group(1));
            } else if (call.matches()) {
                String got = answer(x, call.group(1), call.group(2));
                TOLD.due(lines[i] + " is " + got, true, got.equals(call.group(3)));
            } else {
                TOLD.due("a line that can be read: " + lines[i], true, false);
            }
        }
    }

    private static String answer(CrossedFavours x, String name, String given) throws IllegalAccessException, InvocationTargetException {
        String[] words = given.isBlank() ? new String[0] : given.split(",");
        for (Method m : CrossedFavours.class.getMethods()) {
            if (m.getName().equals(name) && m.getParameterCount() == words.length) {
                Object[] values = new Object[words.length];
                for (int i = 0; i < words.length; i++) {
                    values[i] = value(m.getParameterTypes()[i], words[i].strip());
                }
                return m.invoke(x, values).toString();
            }
        }
        return "no such call";
    }

    private static Object value(Class<?> type, String word) {
        if (type == boolean.class) {
            return Boolean.valueOf(word);
        }
        return type == long.class ? (Object) Long.valueOf(word) : (Object) Integer.valueOf(word);
    }

    private static void everyCall(String page) {
        for (Method m : CrossedFavours.class.getDeclaredMethods()) {
            if (Modifier.isPublic(m.getModifiers())) {
                TOLD.due("the page names " + m.getName(), true, page.contains("`" + m.getName() + "`"));
            }
        }
    }

    private static void everyTest(String page, String tests) throws IOException {
        try (DirectoryStream<Path> files = Files.newDirectoryStream(Path.of(tests), "*Test.java")) {
            for (Path file : files) {
                String name = file.getFileName().toString().replace(".java", "");
                TOLD.due("the page names " + name, true, page.contains("`" + name + "`"));
            }
        }
    }
}
