import java.lang.reflect.Constructor;
import java.lang.reflect.Field;
import java.lang.reflect.Method;
import java.lang.reflect.Modifier;
import java.nio.charset.StandardCharsets;
import java.nio.file.Files;
import java.nio.file.Path;
import java.util.TreeSet;

/** The public face stands just as the document has it. The first argument is the document's path. */
public final class FaceTest {
    public static void main(String[] args) throws Exception {
        TreeSet<String> due = documented(Files.readString(Path.of(args[0]), StandardCharsets.UTF_8));
        TreeSet<String> found = declared();
        Check.answers(1, 58, () -> due.size());
        Check.answers(1, due, () -> found);
        Check.answers(1, true, () -> Modifier.isFinal(PrefixCodeIndex.class.getModifiers()));
        Check.answers(1, true, () -> nothingElseIsOpen());
        Check.finish();
    }

    private static TreeSet<String> documented(String document) {
        TreeSet<String> lines = new TreeSet<>();
        int start = document.indexOf("public final class PrefixCodeIndex {");
        for (String line : document.substring(start, document.indexOf("```", start)).split("\n")) {
            String text = line.strip();
            if (text.startsWith("public ") && text.endsWith(";")) {
                lines.add(text.replaceAll("(int|char) [a-z]+([,)])", "$1$2").replaceAll("[,;]", ""));
            }
        }
        return lines;
    }

    private static TreeSet<String> declared() {
        TreeSet<String> lines = new TreeSet<>();
        for (Constructor<?> made : PrefixCodeIndex.class.getDeclaredConstructors()) {
            lines.add(Modifier.toString(made.getModifiers()) + " PrefixCodeIndex"
                    + names(made.getParameterTypes(), "(", ")") + thrown(made.getExceptionTypes()));
        }
        for (Method method : PrefixCodeIndex.class.getDeclaredMethods()) {
            if (!Modifier.isPrivate(method.getModifiers()) && !method.isSynthetic()) {
                lines.add(Modifier.toString(method.getModifiers()) + " " + method.getReturnType().getSimpleName()
                        + " " + method.getName() + names(method.getParameterTypes(), "(", ")")
                        + thrown(method.getExceptionTypes()));
            }
        }
        return lines;
    }

    private static String thrown(Class<?>[] types) {
        return types.length == 0 ? "" : names(types, " throws ", "");
    }

    private static String names(Class<?>[] types, String open, String close) {
        StringBuilder text = new StringBuilder(open);
        for (int i = 0; i < types.length; i++) {
            text.append(i == 0 ? "" : " ").append(types[i].getSimpleName());
        }
        return text.append(close).toString();
    }

    private static boolean nothingElseIsOpen() {
        for (Field field : PrefixCodeIndex.class.getDeclaredFields()) {
            if (!Modifier.isPrivate(field.getModifiers())) {
                return false;
            }
        }
        return true;
    }
}
