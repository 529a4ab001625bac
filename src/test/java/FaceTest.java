import java.io.IOException;
import java.lang.reflect.Constructor;
import java.lang.reflect.Field;
import java.lang.reflect.Method;
import java.lang.reflect.Modifier;
import java.nio.file.Files;
import java.nio.file.Path;
import java.util.ArrayList;
import java.util.Arrays;
import java.util.List;
import java.util.Set;
import java.util.TreeSet;
import java.util.regex.Matcher;
import java.util.regex.Pattern;
import java.util.stream.Collectors;

/** The class has the document's face and no other, and keeps to such rules of LANGUAGE.md as can be seen from outside. */
public final class FaceTest {
    private static final Told TOLD = new Told("face");
    private static final String FACE = """
        int feed(int,int,int,int,int)
        boolean end(int)
        int fault(int)
        int text(int)
        int house(int,int)
        int owes(int,int)
        boolean law(int)
        int sung(int,int)
        boolean grace(int)
        int cross(int)
        int sing(int)
        int gives(int,int,int)
        int forgives(int,int)
        int keep(int)
        int give(int)
        int years(int,long)
        int status(int)
        int undo()
        int log(int,int)
        int after(int,int,int,int)
        int worthAfter(int,int,int)
        int again(int,int)
        int like(int)
        int reach(int)
        int straight(int)
        int fewest(int,int)
        int ring()
        int chain(int,int)
        int seen(int,int,int,int,boolean)
        int fits()
        int ask(int,int)
        int game(int,int,int,int,int)
        int rests(int,int,int)
        int odds(int,int)
        int shares(int,int)
        int all(int)
        int image()
        int back()
        int count(int)
        """;

    private FaceTest() {
    }

    public static void main(String[] args) throws IOException {
        face();
        classesInside();
        source();
        TOLD.close();
    }

    private static String signature(Method m) {
        String types = Arrays.stream(m.getParameterTypes()).map(Class::getName).collect(Collectors.joining(","));
        return m.getReturnType().getName() + " " + m.getName() + "(" + types + ")";
    }

    private static void face() {
        Class<?> c = CrossedFavours.class;
        TOLD.due("public and final", Modifier.PUBLIC | Modifier.FINAL, c.getModifiers());
        Set<String> want = new TreeSet<>(Arrays.asList(FACE.strip().split("\\n")));
        Set<String> got = new TreeSet<>();
        for (Method m : c.getDeclaredMethods()) {
            if (!Modifier.isPrivate(m.getModifiers())) {
                got.add(signature(m));
                TOLD.due("public and no more: " + m, Modifier.PUBLIC, m.getModifiers());
            }
        }
        TOLD.due("methods " + got, true, want.equals(got));
        for (Constructor<?> k : c.getDeclaredConstructors()) {
            TOLD.due("constructor " + k, 0, k.getParameterCount());
        }
        Set<String> fields = new TreeSet<>();
        for (Field f : c.getDeclaredFields()) {
            if (!Modifier.isPrivate(f.getModifiers())) {
                fields.add(f.getName());
            }
            if (Modifier.isStatic(f.getModifiers())) {
                TOLD.due("static and final: " + f, true, Modifier.isFinal(f.getModifiers()));
            }
        }
        TOLD.due("constants " + fields, true, fields.equals(new TreeSet<>(List.of("HIDDEN", "NONE"))));
        TOLD.due("NONE", -1, CrossedFavours.NONE);
        TOLD.due("HIDDEN", -1000000, CrossedFavours.HIDDEN);
    }

    private static void classesInside() {
        Set<String> names = new TreeSet<>();
        for (Method m : CrossedFavours.class.getDeclaredMethods()) {
            if (Modifier.isPublic(m.getModifiers())) {
                names.add(m.getName());
            }
        }
        List<Class<?>> all = new ArrayList<>(List.of(CrossedFavours.class.getDeclaredClasses()));
        TOLD.due("twelve classes at most", true, all.size() + 1 <= 12);
        all.add(CrossedFavours.class);
        for (Class<?> c : all) {
            int own = 0;
            for (Field f : c.getDeclaredFields()) {
                own += Modifier.isStatic(f.getModifiers()) ? 0 : 1;
            }
            TOLD.due("some twenty fields: " + c, true, own <= 20);
            for (Method m : c.getDeclaredMethods()) {
                TOLD.due("seven parameters at most: " + m, true, m.getParameterCount() <= 7);
                boolean clash = !Modifier.isPublic(m.getModifiers()) && names.contains(m.getName());
                TOLD.due("no name of the face: " + m, false, clash);
            }
            if (c != CrossedFavours.class) {
                TOLD.due("static: " + c, true, Modifier.isStatic(c.getModifiers()));
                TOLD.due("not public: " + c, false, Modifier.isPublic(c.getModifiers()) || Modifier.isProtected(c.getModifiers()));
            }
        }
    }

    /** Words that the rules leave no place for, and calls of the library that they do not list. */
    private static void source() throws IOException {
        String path = System.getProperty("source");
        if (path == null) {
            System.out.println("face: the source is not looked at, as -Dsource is not told");
            return;
        }
        String code = Files.readString(Path.of(path)).replaceAll("(?s)/\\*.*?\\*/", "").replaceAll("//[^\\n]*", "");
        String[] barred = {
            "->", "::", "\\bfinally\\b", "\\btry\\b", "\\bcatch\\b", "\\bsynchronized\\b", "\\bassert\\b", "\\bpackage\\b", "\\bstatic\\s*\\{",
            "Exact\\b", "\\bThread\\b", "\\bRandom\\b", "\\bdouble\\b", "\\bfloat\\b", "while\\s*\\(true\\)", "for\\s*\\(;;\\)", "\\bprotected\\b",
            "\\bnull\\b", "\\bvar\\b"
        };
        for (String word : barred) {
            TOLD.due("no " + word, false, Pattern.compile(word).matcher(code).find());
        }
        Matcher library = Pattern.compile("\\b(System|Math|Integer|Long|Arrays|String|List)\\s*\\.\\s*(\\w+)").matcher(code);
        while (library.find()) {
            String call = library.group(1) + "." + library.group(2);
            TOLD.due("library: " + call, true, Set.of("System.arraycopy", "Math.max", "Math.min", "Math.abs").contains(call));
        }
        Matcher imports = Pattern.compile("import ([\\w.]+);").matcher(code);
        while (imports.find()) {
            TOLD.due("import " + imports.group(1), true, imports.group(1).equals("java.util.NoSuchElementException"));
        }
        TOLD.due("signs of 1 to 127 alone", true, code.chars().allMatch(c -> c > 0 && c < 128));
    }
}
