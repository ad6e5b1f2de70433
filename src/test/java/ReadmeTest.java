import java.lang.reflect.InvocationTargetException;
import java.lang.reflect.Method;
import java.nio.charset.StandardCharsets;
import java.nio.file.Files;
import java.nio.file.Path;
import java.util.regex.Matcher;
import java.util.regex.Pattern;

/**
 * README.md tells the truth: the answers in its example are as the class gives them, its commands do what the calls beside
 * them do, and every method of the face is named. The fourth argument is its path.
 */
public final class ReadmeTest {
    private static final String OPENING = "PrefixCodeIndex index = new PrefixCodeIndex();";
    private static final Pattern CALL = Pattern.compile("index\\.(\\w+)\\(([-0-9, ]*)\\); *// (throws \\w+|[-0-9]+).*");
    private static final Pattern TYPING = Pattern.compile(
            "for \\(char sign : \"([^\"]*)\"\\.toCharArray\\(\\)\\) \\{ index\\.append\\(sign\\); \\}");
    private static final Pattern COMMAND = Pattern.compile("\\| `([a-z0-9 ]+)` +\\| `(\\w+)\\(([0-9, ]*)\\)` +(?=\\|)");

    public static void main(String[] args) throws Exception {
        String text = Files.readString(Path.of(args[3]), StandardCharsets.UTF_8);
        example(text);
        commands(text);
        for (Method method : PrefixCodeIndex.class.getMethods()) {
            if (method.getDeclaringClass() == PrefixCodeIndex.class) {
                Check.about("README.md names " + method.getName());
                Check.answers(true, () -> text.contains("`" + method.getName() + "`"));
            }
        }
        Check.finish();
    }

    private static void example(String text) {
        PrefixCodeIndex index = new PrefixCodeIndex();
        int start = text.indexOf("```java\n" + OPENING);
        String[] lines = text.substring(start, text.indexOf("\n```\n", start)).split("\n");
        for (int i = 2; i < lines.length; i++) {
            String line = lines[i];
            Check.about("README.md's line " + line);
            Matcher typing = TYPING.matcher(line);
            Matcher call = CALL.matcher(line);
            if (typing.matches()) {
                Check.type(index, typing.group(1));
            } else if (call.matches()) {
                Check.answers(call.group(3), () -> answer(index, call.group(1), call.group(2)));
            } else {
                Check.answers("a line of a known form", () -> line);
            }
        }
    }

    private static void commands(String text) {
        Matcher row = COMMAND.matcher(text);
        int met = 0;
        while (row.find()) {
            met++;
            Check.about("README.md's command " + row.group(1));
            PrefixCodeIndex called = begun();
            answer(called, row.group(2), row.group(3));
            Check.answers(3, () -> called.undoableCount());
            Check.answers(false, () -> View.index(called).equals(View.index(begun())));
            Check.answers(View.index(called), () -> {
                PrefixCodeIndex run = begun();
                Check.run(run, row.group(1));
                return View.index(run);
            });
        }
        int commands = met;
        Check.about("README.md's commands");
        Check.answers(11, () -> commands);
    }

    /** On this index each command of the list changes something. */
    private static PrefixCodeIndex begun() {
        PrefixCodeIndex x = new PrefixCodeIndex();
        Check.run(x, "entry 1;entry 1;segment;entry 9;code 1 42");
        Check.run(x, "code 0 9;code 1 421;days 3");
        return x;
    }

    private static String answer(PrefixCodeIndex index, String name, String arguments) {
        String[] texts = arguments.isEmpty() ? new String[0] : arguments.split(", ");
        Object[] values = new Object[texts.length];
        Class<?>[] types = new Class<?>[texts.length];
        for (int i = 0; i < texts.length; i++) {
            values[i] = Integer.valueOf(texts[i]);
            types[i] = int.class;
        }
        try {
            return String.valueOf(PrefixCodeIndex.class.getMethod(name, types).invoke(index, values));
        } catch (InvocationTargetException e) {
            return "throws " + e.getCause().getClass().getSimpleName();
        } catch (ReflectiveOperationException e) {
            return "no such call";
        }
    }
}
