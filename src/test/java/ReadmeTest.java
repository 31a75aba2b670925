import java.io.IOException;
import java.lang.reflect.InvocationTargetException;
import java.lang.reflect.Method;
import java.lang.reflect.Modifier;
import java.nio.charset.StandardCharsets;
import java.nio.file.Files;
import java.nio.file.Path;
import java.util.Set;
import java.util.TreeSet;
import java.util.regex.Matcher;
import java.util.regex.Pattern;

/** Carries out the calls in README.md, and looks whether the answers stand behind them. */
public final class ReadmeTest {
    private static final Check CHECK = new Check("ReadmeTest");
    private static final Path README = Path.of("README.md");
    private static final String NEW_TABLE = "EqualHeights table = new EqualHeights();";
    private static final Pattern CALL = Pattern.compile(
        "(?<made>Float\\.intBitsToFloat|Double\\.longBitsToDouble|)\\(?table\\.(?<name>\\w+)"
        + "\\((?<values>[^()]*|characters\\(\"[^\"]*\"\\))\\)\\)?; *// (?<answer>[\\w.-]+)(,.*| .*)?");

    private static EqualHeights table;

    public static void main(String[] args) throws IOException, ReflectiveOperationException {
        Set<String> asked = new TreeSet<>();
        boolean inCode = false;
        for (String line : Files.readAllLines(README, StandardCharsets.US_ASCII)) {
            if (line.startsWith("```")) {
                inCode = line.equals("```java");
            } else if (inCode && line.contains("table")) {
                asked.add(carryOut(line));
            }
        }
        for (Method method : EqualHeights.class.getDeclaredMethods()) {
            CHECK.holds("README.md shows " + method.getName(),
                !Modifier.isPublic(method.getModifiers()) || asked.contains(method.getName()));
        }
        CHECK.end();
    }

    /** Answers the name of the call; every line in which the table stands has to be one, with its answer. */
    private static String carryOut(String line) throws ReflectiveOperationException {
        if (line.equals(NEW_TABLE)) {
            table = new EqualHeights();
            return "";
        }
        Matcher call = CALL.matcher(line);
        boolean isCall = call.matches();
        CHECK.holds(line + " is a call with its answer", isCall);
        if (!isCall) {
            return "";
        }
        String got = told(call.group("made"), ask(call.group("name"), call.group("values")));
        String want = call.group("answer");
        CHECK.holds(line + " answered " + got, got.equals(valueOf(want)));
        return call.group("name");
    }

    private static Number ask(String name, String values) throws ReflectiveOperationException {
        for (Method method : EqualHeights.class.getDeclaredMethods()) {
            if (method.getName().equals(name) && Modifier.isPublic(method.getModifiers())) {
                return ask(method, values);
            }
        }
        throw new NoSuchMethodException(name);
    }

    private static Number ask(Method method, String values) throws ReflectiveOperationException {
        String[] each = values.isEmpty() ? new String[0] : values.split(", ");
        Class<?>[] types = method.getParameterTypes();
        CHECK.due(method.getName() + "(" + values + "), arguments", each.length, types.length);
        Object[] arguments = new Object[types.length];
        for (int i = 0; i < types.length; i++) {
            arguments[i] = types[i] == long.class ? (Object) characters(each[i]) : Integer.valueOf(valueOf(each[i]));
        }
        try {
            return (Number) method.invoke(table, arguments);
        } catch (InvocationTargetException e) {
            throw new IllegalStateException("README.md says that no call throws", e);
        }
    }

    private static long characters(String call) {
        return Check.numbersOf(call.substring(call.indexOf('"') + 1, call.lastIndexOf('"')))[0];
    }

    /** A number as it stands there, and the number of a constant. */
    private static String valueOf(String told) throws ReflectiveOperationException {
        String name = told.replace("EqualHeights.", "");
        return Character.isUpperCase(name.charAt(0)) ? String.valueOf(EqualHeights.class.getField(name).getInt(null)) : name;
    }

    private static String told(String made, Number answer) {
        switch (made) {
            case "Float.intBitsToFloat": return String.valueOf(Float.intBitsToFloat(answer.intValue()));
            case "Double.longBitsToDouble": return String.valueOf(Double.longBitsToDouble(answer.longValue()));
            default: return answer.toString();
        }
    }
}
