import java.util.ArrayList;
import java.util.List;

/** The document's sections and sentences, each text with single spaces. */
final class Document {
    private final List<String> names = new ArrayList<>();
    private final List<String> headings = new ArrayList<>();
    private final List<String> bodies = new ArrayList<>();

    Document(String text) {
        for (String part : text.split("\n## ")) {
            String heading = part.split("\n", 2)[0];
            headings.add(heading);
            names.add(heading.split(":")[0]);
            bodies.add(part.substring(heading.length()));
        }
    }

    /** The heading of a section, or the name itself if no section has it. */
    String heading(String section) {
        int index = names.indexOf(section);
        return index < 0 ? section : headings.get(index);
    }

    /** A number that grows along the document, or -1 if the words do not stand in the section. */
    int place(String section, String words) {
        int index = names.indexOf(section);
        int offset = index < 0 ? -1 : plain(bodies.get(index)).indexOf(words);
        return offset < 0 ? -1 : 100_000 * index + offset;
    }

    /** The sections and sentences that tell a boundary by their form. */
    List<String[]> boundaries() {
        List<String[]> found = new ArrayList<>();
        for (int i = 0; i < names.size(); i++) {
            boolean isPromise = names.get(i).startsWith("Promise ");
            if (isPromise || names.get(i).equals("Terms") || names.get(i).equals("What it is")) {
                for (String sentence : sentences(bodies.get(i))) {
                    if (isPromise ? isPromised(sentence) : isLimit(sentence)) {
                        found.add(new String[] {names.get(i), sentence});
                    }
                }
            }
        }
        return found;
    }

    private static List<String> sentences(String body) {
        List<String> sentences = new ArrayList<>();
        for (String paragraph : body.split("\n\n|\n- |\\A- ")) {
            for (String sentence : plain(paragraph).split("(?<=[.;]) |: (?=Creates|Adds|Removes|Returns)")) {
                sentences.add(sentence.replaceFirst("^- ", ""));
            }
        }
        return sentences;
    }

    private static boolean isPromised(String sentence) {
        return sentence.startsWith("Throws ") || !sentence.startsWith("`") && isLimit(sentence)
                || sentence.matches("`[a-z]+`: .*\\d.*");
    }

    private static boolean isLimit(String sentence) {
        return sentence.matches(".*(\\b\\d+\\b|\\bat most|up to|or more|optional|negative|empty|initially|even if|lowest|"
                + "latest|earlier|Either|without|No ).*") && !sentence.startsWith("An example");
    }

    private static String plain(String text) {
        return text.strip().replaceAll("\\s+", " ");
    }
}
