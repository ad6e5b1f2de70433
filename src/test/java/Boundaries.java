import java.util.ArrayList;
import java.util.List;
import java.util.NoSuchElementException;

/** What the boundary tests have in common: indexes to begin with, wrong arguments, and how a call is refused. */
abstract class Boundaries {
    interface Making {
        PrefixCodeIndex made();
    }

    interface Use {
        Object of(PrefixCodeIndex x);
    }

    interface UseOfNumber {
        Object of(PrefixCodeIndex x, int number);
    }

    interface UseOfPrefix {
        Object of(PrefixCodeIndex x, int digits, int value);
    }

    static final Class<NoSuchElementException> MISSING = NoSuchElementException.class;
    static final Class<IllegalArgumentException> UNFIT = IllegalArgumentException.class;
    static final Class<IllegalStateException> REFUSED = IllegalStateException.class;
    static final Class<IndexOutOfBoundsException> OUTSIDE = IndexOutOfBoundsException.class;
    static final Class<ArithmeticException> UNDIVIDED = ArithmeticException.class;

    static final int LEAST = Integer.MIN_VALUE;
    static final int GREATEST = Integer.MAX_VALUE;

    /** In busy(): one that has faded, one removed, one merged, and the next free one; 0 to 3 and 7 are there. */
    private static final int[] NO_IDS = {-1, 4, 5, 6, 8, 20, LEAST, GREATEST};

    private static final int[] NO_CODES = {-1, 1000, LEAST, GREATEST};

    private static final int[] NO_DAYS = {0, 61, -1, LEAST, GREATEST};

    private static final int[][] NO_PREFIXES = {
        {-1, 0}, {4, 0}, {4, 1000}, {LEAST, 0}, {GREATEST, 0}, {0, 1}, {0, -1}, {1, 10}, {1, -1}, {2, 100}, {2, -1},
        {3, 1000}, {3, -1}, {3, LEAST}, {3, GREATEST},
    };

    /** Sixty characters; a command is missing at the end. */
    static final String FINDS = "find;find;find;find;find;find;find;find;find;find;find;find;";

    static void answers(Object due, Check.Call call) {
        Check.answers(due, call);
    }

    static void refuses(Class<? extends RuntimeException> due, Check.Call call) {
        Check.refuses(due, call);
    }

    /** The call is refused, and nothing that can be asked or done afterwards tells that it was tried. */
    static void refuses(Class<? extends RuntimeException> due, Making making, Use call) {
        refuses(due, () -> call.of(making.made()));
        same(making, () -> after(making, call));
    }

    /** Both indexes answer the same now, after each number of undos, after restore, and to what comes next. */
    static void same(Making due, Making other) {
        for (Use probe : probes()) {
            answers(probe.of(due.made()), () -> probe.of(other.made()));
        }
    }

    static PrefixCodeIndex after(Making making, Use call) {
        PrefixCodeIndex x = making.made();
        Check.outcome(() -> call.of(x));
        return x;
    }

    private static List<Use> probes() {
        List<Use> probes = new ArrayList<>();
        for (int i = 0; i <= 8; i++) {
            int undos = i;
            probes.add(x -> undone(x, undos) + View.whole(x));
        }
        probes.add(x -> Check.outcome(() -> x.restore()) + View.whole(x));
        probes.add(x -> Check.outcome(() -> x.append('d')) + Check.outcome(() -> x.run()) + View.whole(x));
        probes.add(x -> Check.outcome(() -> x.addEntry(1)) + View.whole(x));
        return probes;
    }

    private static String undone(PrefixCodeIndex x, int times) {
        StringBuilder text = new StringBuilder();
        for (int i = 0; i < times; i++) {
            text.append(Check.outcome(() -> x.undo())).append(' ');
        }
        return text.toString();
    }

    // What is refused for wrong arguments

    static void refusesMissing(UseOfNumber call) {
        for (int id : NO_IDS) {
            refuses(MISSING, Boundaries::busy, x -> call.of(x, id));
        }
        refuses(MISSING, PrefixCodeIndex::new, x -> call.of(x, 0));
    }

    static void refusesCodes(UseOfNumber call) {
        for (int code : NO_CODES) {
            refuses(UNFIT, Boundaries::busy, x -> call.of(x, code));
        }
    }

    static void refusesDays(UseOfNumber call) {
        for (int days : NO_DAYS) {
            refuses(UNFIT, Boundaries::busy, x -> call.of(x, days));
        }
        refuses(UNFIT, PrefixCodeIndex::new, x -> call.of(x, 0));
    }

    static void refusesPrefixes(UseOfPrefix call) {
        for (int[] prefix : NO_PREFIXES) {
            refuses(UNFIT, Boundaries::busy, x -> call.of(x, prefix[0], prefix[1]));
        }
    }

    // Indexes to begin with

    static PrefixCodeIndex entries(int... weights) {
        PrefixCodeIndex x = new PrefixCodeIndex();
        for (int weight : weights) {
            x.addEntry(weight);
        }
        return x;
    }

    static PrefixCodeIndex fullIndex() {
        PrefixCodeIndex x = new PrefixCodeIndex();
        for (int i = 0; i < 20; i++) {
            x.addEntry(9 - i % 9);
        }
        return x;
    }

    static PrefixCodeIndex entryWith(int... codes) {
        PrefixCodeIndex x = entries(5);
        give(x, 0, codes);
        return x;
    }

    static void give(PrefixCodeIndex x, int id, int... codes) {
        for (int code : codes) {
            x.addCode(id, code);
        }
    }

    static PrefixCodeIndex segments(int number) {
        PrefixCodeIndex x = new PrefixCodeIndex();
        for (int segment = 0; segment < number; segment++) {
            if (segment > 0) {
                x.startSegment();
            }
            x.addEntry(1 + segment);
        }
        return x;
    }

    /** Codes at both ends of each number of digits. */
    static PrefixCodeIndex corners() {
        PrefixCodeIndex x = entries(1, 2, 3, 4, 5);
        give(x, 0, 0, 999);
        give(x, 1, 9, 90);
        give(x, 2, 900, 990);
        give(x, 4, 500);
        return x;
    }

    /** An index with some of everything, and "fin" in the input buffer. */
    static PrefixCodeIndex busy() {
        PrefixCodeIndex x = resting(2, 1);
        Check.type(x, "fin");
        return x;
    }

    /** An index with some of everything, whose input buffer is empty and whose stored positions are these. */
    static PrefixCodeIndex resting(int errorPosition, int failedCommand) {
        PrefixCodeIndex x = new PrefixCodeIndex();
        Check.type(x, errorPosition < 60 ? FINDS.substring(0, errorPosition) + "~" : FINDS);
        Check.outcome(() -> x.run());
        Check.type(x, FINDS.substring(0, 5 * failedCommand) + "drop 9");
        Check.outcome(() -> x.run());
        addOldEntries(x);
        x.startSegment();
        x.pass(11);
        x.save();
        x.removeEntry(5);
        x.addEntry(4);
        x.addCode(6, 1);
        x.merge(6, 0);
        x.search(1, 4);
        x.startSegment();
        x.addEntry(2);
        x.pass(2);
        x.formatEntry(1);
        // A trie that has been asked must notice what comes after.
        x.resultCount(0, 0);
        return x;
    }

    private static void addOldEntries(PrefixCodeIndex x) {
        for (int weight : new int[] {3, 5, 3, 9, 1, 2}) {
            x.addEntry(weight);
        }
        give(x, 0, 420, 421, 7);
        give(x, 1, 420, 42);
        give(x, 2, 7);
        give(x, 3, 0, 99, 100, 500, 998, 999);
    }

    static PrefixCodeIndex typed(PrefixCodeIndex x, String text) {
        Check.type(x, text);
        return x;
    }

    static void passAll(PrefixCodeIndex x, int days) {
        for (int left = days; left > 0; left -= 60) {
            x.pass(Math.min(60, left));
        }
    }

    static void searchAll(PrefixCodeIndex x, int times) {
        for (int i = 0; i < times; i++) {
            x.search(0, 0);
        }
    }
}
