import java.nio.charset.StandardCharsets;
import java.nio.file.Files;
import java.nio.file.Path;

/** Those rules of LANGUAGE.md that the source's words show. The second argument is the source's path. */
public final class LanguageTest {
    public static void main(String[] args) throws Exception {
        String source = Files.readString(Path.of(args[1]), StandardCharsets.UTF_8);
        String[] forbidden = {
            "->", "::", "catch", "finally", "synchronized", "assert", "package ", "volatile", "native", "Exact(",
            "System.out", "System.exit", "System.nano", "System.current", "Thread", "Object", "hashCode", "toString",
            "static {", "\t", "var ", "instanceof", "Class", "float[", "double[",
        };
        int wrong = 0;
        for (String word : forbidden) {
            if (source.contains(word)) {
                System.out.println("the source holds " + word);
                wrong++;
            }
        }
        for (String line : source.split("\n")) {
            if (line.startsWith("import ") && !line.equals("import java.util.Arrays;")
                    && !line.equals("import java.util.NoSuchElementException;")) {
                System.out.println("not in the library: " + line);
                wrong++;
            }
            if (line.contains(" new ") && !line.contains("throw new ") && !line.contains(" final ")
                    && !line.contains("[i] = new ")) {
                System.out.println("made outside a constructor: " + line.strip());
                wrong++;
            }
        }
        for (int i = 0; i < source.length(); i++) {
            if (source.charAt(i) > 126) {
                System.out.println("a sign beyond 126 at " + i);
                wrong++;
            }
        }
        System.out.println(wrong == 0 ? "the source's words are as due" : wrong + " faults");
        if (wrong > 0) {
            System.exit(1);
        }
    }
}
