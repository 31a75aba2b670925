import java.io.IOException;
import java.lang.reflect.Field;
import java.lang.reflect.Method;
import java.lang.reflect.Modifier;
import java.nio.charset.StandardCharsets;
import java.nio.file.Files;
import java.nio.file.Path;
import java.util.HashSet;
import java.util.Set;
import java.util.TreeSet;
import java.util.regex.Matcher;
import java.util.regex.Pattern;

/** Those rules of LANGUAGE.md that can be looked after from outside: the face, and words that may not stand. */
public final class LanguageTest {
    private static final Check CHECK = new Check("LanguageTest");
    private static final Class<?> FACE = EqualHeights.class;

    private static final String[] FORBIDDEN = {"\\bpackage\\b", "\\bimport (?!java\\.util\\.(ArrayList|List|Arrays|Iterator"
        + "|NoSuchElementException);)", "->", "::", "\\bfinally\\b", "\\bsynchronized\\b", "\\bassert\\b", "\\bFloat\\b",
        "\\bDouble\\b", "\\bObject\\b", "\\bThread\\b", "\\bstatic \\{", "\\w+Exact\\b", "MAX_VALUE", "MIN_VALUE",
        "\\bprotected\\b", "catch \\((Exception|Throwable|NullPointer|ArrayIndex|ClassCast|NegativeArray|ArrayStore)"};
    private static final String[] LIBRARY = {"Bits\\.\\w+", "(Math|Integer|Long)\\.\\w+", "System\\.arraycopy", "List\\.of",
        "Arrays\\.(copyOf|copyOfRange|fill)"};

    public static void main(String[] args) throws IOException {
        String source = Files.readString(Path.of("src/main/java/EqualHeights.java"), StandardCharsets.US_ASCII);
        String code = source.replaceAll("(?s)/\\*.*?\\*/", "").replaceAll("//.*", "");
        words(code);
        face();
        Set<String> publicNames = new HashSet<>();
        for (Method method : FACE.getMethods()) {
            publicNames.add(method.getName());
        }
        Class<?>[] nested = FACE.getDeclaredClasses();
        CHECK.holds("some twelve classes", nested.length + 1 <= 12);
        members(FACE, publicNames);
        for (Class<?> inside : nested) {
            CHECK.holds(inside + " is static", Modifier.isStatic(inside.getModifiers()));
            CHECK.holds(inside + " is not public", !Modifier.isPublic(inside.getModifiers()));
            members(inside, publicNames);
        }
        CHECK.end();
    }

    private static void words(String code) {
        for (String word : FORBIDDEN) {
            Matcher matcher = Pattern.compile(word).matcher(code);
            CHECK.holds("without " + word, !matcher.find());
        }
        Matcher library = Pattern.compile("\\b([A-Z]\\w*[a-z]\\w*)\\.(\\w+)").matcher(code);
        while (library.find()) {
            boolean allowed = false;
            for (String one : LIBRARY) {
                allowed = allowed || library.group().matches(one);
            }
            CHECK.holds(library.group() + " may be used", allowed);
        }
    }

    private static void face() {
        String[] methods = {"int set(int,int)", "int insert(int,int)", "int remove(int)", "int analyse()",
            "int row(int,int)", "int bucket(int,int,int)", "int common(int,int,int)", "int pair(int,int)",
            "int count(int)", "int estimate(int,int,int,int)", "int both(int,int,int,int,int)",
            "int share(int,int,int)", "long height(int)", "int worst(int,int)", "int fewest(int,int)", "int put(long)",
            "int wipe()", "int fault()", "int carryOut()", "int undo()", "int save(int)", "int restore(int)"};
        Set<String> due = new TreeSet<>();
        for (String method : methods) {
            int space = method.indexOf(' ');
            due.add("public " + method.substring(0, space) + " EqualHeights." + method.substring(space + 1));
        }
        Set<String> there = new TreeSet<>();
        for (Method method : FACE.getDeclaredMethods()) {
            if (!Modifier.isPrivate(method.getModifiers())) {
                there.add(method.toString());
            }
        }
        CHECK.holds("the methods of the face " + there, there.equals(due));
        Set<String> constants = new TreeSet<>(Set.of("NO_SUCH", "BAD_VALUE", "BAD_TEXT", "TOO_MANY", "NOT_POSSIBLE",
            "NONE", "BUCKETS", "COMMON", "PAIRS", "STALE"));
        Set<String> fields = new TreeSet<>();
        for (Field field : FACE.getDeclaredFields()) {
            if (!Modifier.isPrivate(field.getModifiers())) {
                CHECK.holds(field + " is a constant", field.toString().startsWith("public static final int"));
                fields.add(field.getName());
            }
        }
        CHECK.holds("the constants of the face " + fields, fields.equals(constants));
        CHECK.due("constructors", FACE.getDeclaredConstructors().length, 1);
        CHECK.holds("public and final", FACE.getModifiers() == (Modifier.PUBLIC | Modifier.FINAL));
        CHECK.holds("no parent", FACE.getSuperclass() == Object.class && FACE.getInterfaces().length == 0);
    }

    private static void members(Class<?> owner, Set<String> publicNames) {
        for (Method method : owner.getDeclaredMethods()) {
            CHECK.holds(method + " has at most seven parameters", method.getParameterCount() <= 7);
            CHECK.holds(method + " does not bear a public name",
                Modifier.isPublic(method.getModifiers()) || !publicNames.contains(method.getName()));
        }
        int fields = 0;
        for (Field field : owner.getDeclaredFields()) {
            boolean isStatic = Modifier.isStatic(field.getModifiers());
            CHECK.holds(field + " is no static state", !isStatic || Modifier.isFinal(field.getModifiers()));
            fields += isStatic ? 0 : 1;
        }
        CHECK.holds(owner + " has some twenty fields", fields <= 20);
    }
}
