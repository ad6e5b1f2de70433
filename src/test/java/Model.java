import java.util.ArrayDeque;
import java.util.ArrayList;
import java.util.Comparator;
import java.util.HashSet;
import java.util.List;
import java.util.Map;
import java.util.NoSuchElementException;
import java.util.Set;
import java.util.TreeMap;
import java.util.TreeSet;
import java.util.regex.Matcher;
import java.util.regex.Pattern;

/**
 * The document once more, written with the Java library and with codes as texts, so that a slip in the class is
 * hardly made here too.
 */
final class Model {
    private static final String NUMBER = "[0-9]{1,3}";
    private static final String COMMAND = "(?:entry [0-9]|code " + NUMBER + " " + NUMBER + "|uncode " + NUMBER + " "
            + NUMBER + "|drop " + NUMBER + "|touch " + NUMBER + "|merge " + NUMBER + " " + NUMBER
            + "|segment|join [0-9]|find(?: " + NUMBER + ")?|days " + NUMBER + ")";
    private static final Pattern PROGRAM = Pattern.compile(COMMAND + "(?:;" + COMMAND + ")*");

    private static final class Item {
        int weight;
        int age;
        int hits;
        int segment;
        TreeSet<String> codes = new TreeSet<>();

        Item copy() {
            Item copy = new Item();
            copy.weight = weight;
            copy.age = age;
            copy.hits = hits;
            copy.segment = segment;
            copy.codes.addAll(codes);
            return copy;
        }

        int lifetime() {
            int days = weight * 10 + hits * 5;
            return days > 150 ? 150 : days;
        }

        long with(String prefix) {
            return codes.stream().filter(code -> code.startsWith(prefix)).count();
        }

        int score(String prefix) {
            return (int) (10 * weight + 5 * with(prefix) - age);
        }
    }

    private static final class State {
        TreeMap<Integer, Item> items = new TreeMap<>();
        int next;
        int segments = 1;
        int added;
        int removed;
        int merged;
        int faded;

        State copy() {
            State copy = new State();
            items.forEach((id, item) -> copy.items.put(id, item.copy()));
            copy.next = next;
            copy.segments = segments;
            copy.added = added;
            copy.removed = removed;
            copy.merged = merged;
            copy.faded = faded;
            return copy;
        }
    }

    private State now = new State();
    private State kept;
    private final ArrayDeque<State> past = new ArrayDeque<>();
    private String buffer = "";
    private String line = "";
    private Integer errorAt;
    private Integer failedAt;

    private static String prefix(int digits, int value) {
        if (digits < 0 || digits > 3 || value < 0) {
            throw new IllegalArgumentException();
        }
        String text = digits == 0 && value == 0 ? "" : String.format("%0" + Math.max(1, digits) + "d", value);
        if (text.length() != digits) {
            throw new IllegalArgumentException();
        }
        return text;
    }

    private static String code(int code) {
        return prefix(3, code);
    }

    private Item item(int id) {
        if (!now.items.containsKey(id)) {
            throw new NoSuchElementException();
        }
        return now.items.get(id);
    }

    private static void refuseIf(boolean refused) {
        if (refused) {
            throw new IllegalStateException();
        }
    }

    /** Performs one of the changes by its command's word. */
    int change(String word, int first, int second) {
        State before = now.copy();
        int answer;
        try {
            answer = perform(word, first, second);
        } catch (RuntimeException e) {
            now = before;
            throw e;
        }
        remember(before);
        return answer;
    }

    private void remember(State before) {
        past.addLast(before);
        if (past.size() > 8) {
            past.removeFirst();
        }
    }

    private int perform(String word, int first, int second) {
        switch (word) {
            case "entry":
                return addEntry(first);
            case "code":
                Item grown = item(first);
                String added = code(second);
                refuseIf(grown.codes.contains(added) || grown.codes.size() == 6);
                grown.codes.add(added);
                return grown.codes.size();
            case "uncode":
                Item shrunk = item(first);
                String gone = code(second);
                refuseIf(!shrunk.codes.contains(gone));
                shrunk.codes.remove(gone);
                return shrunk.codes.size();
            case "drop":
                item(first);
                now.items.remove(first);
                now.removed++;
                return now.items.size();
            case "touch":
                Item touched = item(first);
                int age = touched.age;
                touched.age = 0;
                return age;
            case "merge":
                return merge(first, second);
            case "segment":
                refuseIf(now.segments == 5);
                return now.segments++;
            case "join":
                return join(first);
            case "find":
                return find(first, second);
            default:
                return days(first);
        }
    }

    private int addEntry(int weight) {
        if (weight < 1 || weight > 9) {
            throw new IllegalArgumentException();
        }
        refuseIf(now.items.size() == 20);
        Item item = new Item();
        item.weight = weight;
        item.segment = now.segments - 1;
        now.items.put(now.next, item);
        now.added++;
        return now.next++;
    }

    private int merge(int id, int otherId) {
        Item item = item(id);
        Item other = item(otherId);
        if (item == other) {
            throw new IllegalArgumentException();
        }
        Set<String> both = new HashSet<>(item.codes);
        both.addAll(other.codes);
        refuseIf(both.size() > 6);
        other.codes.addAll(both);
        other.weight = Math.max(item.weight, other.weight);
        other.age = Math.min(item.age, other.age);
        other.hits += item.hits;
        now.items.remove(id);
        now.merged++;
        return both.size();
    }

    private int join(int segment) {
        if (segment < 0 || segment >= now.segments) {
            throw new IndexOutOfBoundsException();
        }
        refuseIf(segment + 1 == now.segments);
        for (Item item : now.items.values()) {
            item.segment -= item.segment > segment ? 1 : 0;
        }
        return --now.segments;
    }

    private int find(int digits, int value) {
        String prefix = prefix(digits, value);
        List<Integer> results = results(prefix);
        for (int id : results) {
            item(id).age = 0;
            item(id).hits++;
        }
        return results.size();
    }

    private int days(int days) {
        if (days < 1 || days > 60) {
            throw new IllegalArgumentException();
        }
        int before = now.items.size();
        for (int i = 0; i < days; i++) {
            now.items.values().forEach(item -> item.age++);
            now.items.values().removeIf(item -> item.age > item.lifetime());
        }
        now.faded += before - now.items.size();
        return before - now.items.size();
    }

    private List<Integer> results(String prefix) {
        List<Integer> ids = new ArrayList<>();
        now.items.forEach((id, item) -> {
            if (item.with(prefix) > 0) {
                ids.add(id);
            }
        });
        ids.sort(Comparator.comparing((Integer id) -> -item(id).score(prefix)).thenComparing(id -> id));
        return ids;
    }

    private TreeSet<String> allCodes() {
        TreeSet<String> all = new TreeSet<>();
        now.items.values().forEach(item -> all.addAll(item.codes));
        return all;
    }

    Object entryCount() {
        return now.items.size();
    }

    Object idAt(int position) {
        if (position < 0 || position >= now.items.size()) {
            throw new IndexOutOfBoundsException();
        }
        return new ArrayList<>(now.items.keySet()).get(position);
    }

    Object property(String name, int id) {
        Item item = item(id);
        switch (name) {
            case "weight":
                return item.weight;
            case "age":
                return item.age;
            case "hits":
                return item.hits;
            case "lifetime":
                return item.lifetime();
            case "segment":
                return item.segment;
            case "codes":
                return item.codes.size();
            default:
                int days = 0;
                for (int age = item.age; age <= item.lifetime(); age++) {
                    days++;
                }
                return days;
        }
    }

    Object codeAt(int id, int position) {
        Item item = item(id);
        if (position < 0 || position >= item.codes.size()) {
            throw new IndexOutOfBoundsException();
        }
        return Integer.parseInt(new ArrayList<>(item.codes).get(position));
    }

    Object hasCode(int id, int code) {
        Item item = item(id);
        return item.codes.contains(code(code));
    }

    Object matches(int id, int digits, int value) {
        Item item = item(id);
        return item.with(prefix(digits, value)) > 0;
    }

    Object segmentCount() {
        return now.segments;
    }

    Object entriesIn(int segment) {
        if (segment < 0 || segment >= now.segments) {
            throw new IndexOutOfBoundsException();
        }
        return now.items.values().stream().filter(item -> item.segment == segment).count();
    }

    Object resultCount(int digits, int value) {
        return results(prefix(digits, value)).size();
    }

    Object resultAt(int digits, int value, int rank) {
        List<Integer> results = results(prefix(digits, value));
        if (rank < 0 || rank >= results.size()) {
            throw new NoSuchElementException();
        }
        return results.get(rank);
    }

    Object scoreOf(int id, int digits, int value) {
        Item item = item(id);
        return item.score(prefix(digits, value));
    }

    Object codesWith(int digits, int value) {
        String prefix = prefix(digits, value);
        return allCodes().stream().filter(code -> code.startsWith(prefix)).count();
    }

    Object nextDigits(int digits, int value) {
        String prefix = prefix(digits, value);
        if (digits > 2) {
            throw new IllegalArgumentException();
        }
        Set<Character> next = new HashSet<>();
        allCodes().stream().filter(code -> code.startsWith(prefix)).forEach(code -> next.add(code.charAt(digits)));
        return next.size();
    }

    Object sharedDigits(int code) {
        String text = code(code);
        for (int digits = 3; digits > 0; digits--) {
            String prefix = text.substring(0, digits);
            if (allCodes().stream().anyMatch(other -> other.startsWith(prefix))) {
                return digits;
            }
        }
        return 0;
    }

    Object entriesWith(int code) {
        return results(code(code)).size();
    }

    Object codeAfter(int code) {
        if (code != -1) {
            code(code);
        }
        String next = code == -1 ? allCodes().ceiling("") : allCodes().higher(code(code));
        if (next == null) {
            throw new NoSuchElementException();
        }
        return Integer.parseInt(next);
    }

    Object commonestCode() {
        Map<String, Integer> counts = new TreeMap<>();
        now.items.values().forEach(item -> item.codes.forEach(code -> counts.merge(code, 1, Integer::sum)));
        String best = null;
        for (String code : counts.keySet()) {
            if (best == null || counts.get(code) > counts.get(best)) {
                best = code;
            }
        }
        if (best == null) {
            throw new NoSuchElementException();
        }
        return Integer.parseInt(best);
    }

    private int shared(Item item, Item other) {
        Set<String> both = new HashSet<>(item.codes);
        both.retainAll(other.codes);
        return both.size();
    }

    Object sharedCodes(int id, int other) {
        return shared(item(id), item(other));
    }

    Object mostSimilar(int id) {
        Item item = item(id);
        return now.items.keySet().stream().filter(other -> other != id)
                .min(Comparator.comparing((Integer other) -> -shared(item, item(other))).thenComparing(o -> o))
                .orElseThrow();
    }

    Object fadingWithin(int days) {
        if (days < 1 || days > 60) {
            throw new IllegalArgumentException();
        }
        return now.items.values().stream().filter(item -> item.age + days > item.lifetime()).count();
    }

    Object total(String name) {
        switch (name) {
            case "added":
                return now.added;
            case "removed":
                return now.removed;
            case "merged":
                return now.merged;
            default:
                return now.faded;
        }
    }

    Object meanCodes() {
        if (now.items.isEmpty()) {
            throw new ArithmeticException();
        }
        double sum = 0;
        for (Item item : now.items.values()) {
            sum += item.codes.size();
        }
        return sum / now.items.size();
    }

    Object fadedShare() {
        if (now.added == 0) {
            throw new ArithmeticException();
        }
        return (float) now.faded / now.added;
    }

    Object formatEntry(int id) {
        Item item = item(id);
        StringBuilder text = new StringBuilder("e" + id + " w" + item.weight + " a" + item.age + " h" + item.hits
                + " s" + item.segment);
        item.codes.forEach(code -> text.append(" ").append(code));
        line = text.toString();
        return line.length();
    }

    Object formatResults(int digits, int value) {
        String prefix = prefix(digits, value);
        List<String> parts = new ArrayList<>();
        results(prefix).forEach(id -> parts.add(id + "=" + item(id).score(prefix)));
        line = String.join(",", parts);
        return line.length();
    }

    Object lineChar(int index) {
        if (index < 0 || index >= line.length()) {
            throw new IndexOutOfBoundsException();
        }
        return line.charAt(index);
    }

    Object append(char character) {
        if (character < 32 || character > 126) {
            throw new IllegalArgumentException();
        }
        refuseIf(buffer.length() == 60);
        buffer += character;
        return buffer.length();
    }

    Object run() {
        String text = buffer;
        buffer = "";
        if (!PROGRAM.matcher(text).matches()) {
            errorAt = errorIn(text);
            throw new IllegalArgumentException();
        }
        State before = now.copy();
        String[] commands = text.split(";");
        for (int i = 0; i < commands.length; i++) {
            String[] words = commands[i].split(" ");
            try {
                performCommand(words);
            } catch (RuntimeException e) {
                now = before;
                failedAt = i;
                throw new IllegalStateException();
            }
        }
        remember(before);
        return commands.length;
    }

    private void performCommand(String[] words) {
        if (words[0].equals("find")) {
            perform("find", words.length == 1 ? 0 : words[1].length(), words.length == 1 ? 0 : Integer.parseInt(words[1]));
            return;
        }
        int first = words.length > 1 ? Integer.parseInt(words[1]) : 0;
        int second = words.length > 2 ? Integer.parseInt(words[2]) : 0;
        perform(words[0], first, second);
    }

    private static int errorIn(String text) {
        for (int length = 1; length <= text.length(); length++) {
            Matcher matcher = PROGRAM.matcher(text.substring(0, length));
            if (!matcher.matches() && !matcher.hitEnd()) {
                return length - 1;
            }
        }
        return text.length();
    }

    Object errorPosition() {
        if (errorAt == null) {
            throw new NoSuchElementException();
        }
        return errorAt;
    }

    Object failedCommand() {
        if (failedAt == null) {
            throw new NoSuchElementException();
        }
        return failedAt;
    }

    Object undoableCount() {
        return past.size();
    }

    Object undo() {
        refuseIf(past.isEmpty());
        now = past.removeLast();
        return past.size();
    }

    Object save() {
        kept = now.copy();
        return kept.items.size();
    }

    Object restore() {
        refuseIf(kept == null);
        now = kept.copy();
        past.clear();
        return now.items.size();
    }
}
