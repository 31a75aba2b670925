import java.io.IOException;
import java.lang.reflect.InvocationTargetException;
import java.lang.reflect.Method;
import java.nio.charset.StandardCharsets;
import java.nio.file.Files;
import java.nio.file.Path;
import java.util.Arrays;
import java.util.Comparator;

/**
 * Runs the tests of a class that are marked with a sentence of the document, and looks whether the sentence stands
 * there: if the document changes, the tests to look at again tell themselves.
 */
abstract class Sentences extends Tables {
    private static final Path DOCUMENT = Path.of("../shared/DOC.md");

    private final Check check = new Check(getClass().getSimpleName());
    private String about = "";

    final void due(String call, long got, long want) {
        check.due(about + ": " + call, got, want);
    }

    final void holds(String what, boolean holds) {
        due(what, holds ? 1 : 0, 1);
    }

    final void runAll() throws IOException {
        boolean hasDocument = Files.exists(DOCUMENT);
        if (!hasDocument) {
            System.out.println(DOCUMENT + " is not there: whether it says these sentences is not looked at");
        }
        String document = hasDocument ? Files.readString(DOCUMENT, StandardCharsets.UTF_8) : "";
        Method[] tests = getClass().getDeclaredMethods();
        Arrays.sort(tests, Comparator.comparing(Method::getName));
        for (Method test : tests) {
            Sentence sentence = test.getAnnotation(Sentence.class);
            if (sentence != null) {
                about = sentence.of() + ", \"" + sentence.says() + "\", " + test.getName();
                holds("stands in the document",
                    !hasDocument || section(document, sentence.of()).contains(plain(sentence.says())));
                run(test);
            }
        }
        check.end();
    }

    private void run(Method test) {
        int before = check.calls();
        try {
            test.invoke(this);
        } catch (IllegalAccessException | InvocationTargetException e) {
            holds("threw " + e.getCause(), false);
        }
        holds("asks something", check.calls() > before);
    }

    /** What stands under a heading: "Settings", or "Promise 3" for "Promise 3: insert". */
    private static String section(String document, String heading) {
        StringBuilder section = new StringBuilder();
        boolean inside = false;
        for (String line : document.split("\n")) {
            if (line.startsWith("#")) {
                String title = line.replaceFirst("^#+ ", "");
                inside = title.equals(heading) || title.startsWith(heading + ":");
            } else if (inside) {
                section.append(line).append('\n');
            }
        }
        return plain(section.toString());
    }

    private static String plain(String words) {
        return words.replace("`", "").replaceAll("\\s+", " ");
    }
}
