import java.io.IOException;
import java.lang.reflect.InvocationTargetException;
import java.lang.reflect.Method;
import java.nio.charset.StandardCharsets;
import java.nio.file.Files;
import java.nio.file.Path;
import java.util.ArrayList;
import java.util.Comparator;
import java.util.HashSet;
import java.util.List;
import java.util.Set;

/**
 * Runs the test of each sentence that names a boundary case, and checks the list that tells which test belongs to which
 * sentence. The first argument is the document's path, the third one the list's; a fourth one, "write", writes the list.
 */
public final class BoundaryTest {
    private static final Class<?>[] FAMILIES = {
        TermBoundaries.class, CommandBoundaries.class, ChangeBoundaries.class, EntryBoundaries.class,
        PrefixBoundaries.class, FadingBoundaries.class, TextBoundaries.class, UndoBoundaries.class,
    };

    private final Document document;
    private final List<Method> tests = new ArrayList<>();

    private BoundaryTest(Document document) {
        this.document = document;
        for (Class<?> family : FAMILIES) {
            for (Method method : family.getDeclaredMethods()) {
                if (method.isAnnotationPresent(Sentence.class)) {
                    tests.add(method);
                }
            }
        }
        tests.sort(Comparator.comparing(this::place).thenComparing(Method::getName));
    }

    public static void main(String[] args) throws IOException {
        BoundaryTest test = new BoundaryTest(new Document(read(args[0])));
        if (args.length > 3 && args[3].equals("write")) {
            Files.writeString(Path.of(args[2]), test.list(), StandardCharsets.UTF_8);
        }
        for (Method method : test.tests) {
            test.run(method);
        }
        String written = read(args[2]);
        Check.about("the list of sentences and tests");
        Check.answers(true, () -> written.equals(test.list()));
        test.checkSentences();
        Check.finish();
    }

    private static String read(String path) throws IOException {
        return Files.readString(Path.of(path), StandardCharsets.UTF_8);
    }

    private int place(Method test) {
        Sentence sentence = test.getAnnotation(Sentence.class);
        return document.place(sentence.in(), sentence.words());
    }

    private static String name(Method test) {
        return test.getDeclaringClass().getSimpleName() + "." + test.getName();
    }

    private void run(Method test) {
        Check.about(name(test));
        int before = Check.made();
        Check.answers("returns", () -> outcome(test));
        int made = Check.made() - before;
        Check.answers(true, () -> made > 1);
    }

    private static String outcome(Method test) {
        try {
            test.invoke(null);
            return "returns";
        } catch (InvocationTargetException e) {
            return "ends with " + e.getCause();
        } catch (IllegalAccessException e) {
            return "can't be called";
        }
    }

    private void checkSentences() {
        Set<String> met = new HashSet<>();
        for (Method test : tests) {
            Sentence sentence = test.getAnnotation(Sentence.class);
            Check.about("the sentence of " + name(test));
            Check.answers(true, () -> place(test) >= 0);
            Check.answers(true, () -> met.add(sentence.in() + sentence.words()));
        }
        for (String[] boundary : document.boundaries()) {
            Check.about("a test for the sentence of " + boundary[0] + ": " + boundary[1]);
            Check.answers(true, () -> hasTest(boundary[0], boundary[1]));
        }
    }

    private boolean hasTest(String section, String words) {
        for (Method test : tests) {
            Sentence sentence = test.getAnnotation(Sentence.class);
            boolean overlaps = words.contains(sentence.words()) || sentence.words().contains(words);
            if (sentence.in().equals(section) && overlaps) {
                return true;
            }
        }
        return false;
    }

    private String list() {
        StringBuilder text = new StringBuilder("# Which test belongs to which sentence\n\n");
        text.append("The sentences of ../shared/DOC.md that name a boundary case, each with its test under\n");
        text.append("src/test/java. BoundaryTest runs them and checks this list; README.md tells how it is written.\n");
        String section = "";
        for (Method test : tests) {
            Sentence sentence = test.getAnnotation(Sentence.class);
            if (!sentence.in().equals(section)) {
                section = sentence.in();
                text.append("\n## ").append(document.heading(section)).append("\n\n");
            }
            text.append("- ").append(name(test)).append(": ").append(sentence.words()).append('\n');
        }
        return text.toString();
    }
}
