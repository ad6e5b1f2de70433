import java.util.NoSuchElementException;

/** Promises 55 to 58: undo, and the saved copy. */
public final class UndoTest {
    private static final Class<NoSuchElementException> MISSING = NoSuchElementException.class;
    private static final Class<IllegalStateException> REFUSED = IllegalStateException.class;

    public static void main(String[] args) {
        whatCounts();
        everyChange();
        atMostEight();
        refusedAmongEight();
        whatStays();
        save();
        saveAndUndo();
        Check.finish();
    }

    private static void whatCounts() {
        PrefixCodeIndex x = new PrefixCodeIndex();
        Check.answers(55, 0, () -> x.undoableCount());
        Check.refuses(56, REFUSED, () -> x.undo());
        x.search(0, 0);
        Check.answers(55, 1, () -> x.undoableCount());
        x.pass(1);
        Check.answers(55, 2, () -> x.undoableCount());
        Check.run(x, "find;find;find");
        Check.answers(55, 3, () -> x.undoableCount());
        Check.refuses(2, IllegalArgumentException.class, () -> x.addEntry(0));
        Check.refuses(5, MISSING, () -> x.removeEntry(0));
        x.save();
        x.resultCount(0, 0);
        x.isConsistent();
        x.formatResults(0, 0);
        Check.answers(55, 3, () -> x.undoableCount());
        Check.answers(56, 2, () -> x.undo());
        Check.answers(56, 1, () -> x.undo());
        Check.answers(56, 0, () -> x.undo());
        Check.answers(55, 0, () -> x.undoableCount());
        Check.refuses(56, REFUSED, () -> x.undo());
    }

    private static String all(PrefixCodeIndex x) {
        StringBuilder text = new StringBuilder();
        for (int i = 0; i < x.entryCount(); i++) {
            text.append(Check.entry(x, x.idAt(i))).append('/');
        }
        text.append(x.segmentCount()).append(' ').append(x.addedTotal()).append(' ').append(x.removedTotal());
        text.append(' ').append(x.mergedTotal()).append(' ').append(x.fadedTotal()).append(' ');
        text.append(x.resultCount(0, 0)).append(' ').append(x.codesWith(1, 0));
        return text.toString();
    }

    private static void everyChange() {
        String[] changes = {
            "entry 4", "code 1 9", "uncode 0 7", "drop 0", "touch 0", "merge 1 0", "segment", "join 0", "find 0",
            "days 2", "entry 1;entry 2;drop 1;join 0",
        };
        for (String change : changes) {
            PrefixCodeIndex x = new PrefixCodeIndex();
            Check.run(x, "entry 1;entry 2;code 0 7;segment;code 1 8;days 9");
            String before = all(x);
            Check.run(x, change);
            Check.answers(56, false, () -> all(x).equals(before));
            Check.answers(56, 1, () -> x.undo());
            Check.answers(56, before, () -> all(x));
            Check.answers(56, 2, () -> x.addEntry(1));
        }
    }

    private static void atMostEight() {
        PrefixCodeIndex x = new PrefixCodeIndex();
        for (int i = 1; i <= 11; i++) {
            x.addEntry(1);
            int due = Math.min(8, i);
            Check.answers(55, due, () -> x.undoableCount());
        }
        for (int i = 7; i >= 0; i--) {
            int due = i;
            Check.answers(56, due, () -> x.undo());
            Check.answers(56, due + 3, () -> x.entryCount());
        }
        Check.refuses(56, REFUSED, () -> x.undo());
        Check.answers(56, 3, () -> x.addEntry(2));
        Check.answers(55, 1, () -> x.undoableCount());
        Check.answers(56, 0, () -> x.undo());
        Check.answers(56, 3, () -> x.entryCount());
    }

    private static void refusedAmongEight() {
        PrefixCodeIndex x = new PrefixCodeIndex();
        for (int i = 1; i <= 9; i++) {
            x.addEntry(1);
        }
        Check.refuses(6, MISSING, () -> x.touch(9));
        Check.type(x, "entry 1;touch 11");
        Check.refuses(52, REFUSED, () -> x.run());
        Check.answers(55, 8, () -> x.undoableCount());
        for (int i = 0; i < 8; i++) {
            x.undo();
        }
        Check.answers(56, 1, () -> x.entryCount());
    }

    private static void whatStays() {
        PrefixCodeIndex x = new PrefixCodeIndex();
        Check.refuses(52, IllegalArgumentException.class, () -> x.run());
        x.addEntry(1);
        x.save();
        Check.type(x, "find;drop 4");
        Check.refuses(52, REFUSED, () -> x.run());
        x.addEntry(1);
        Check.type(x, "fi");
        x.formatEntry(1);
        x.undo();
        x.undo();
        Check.answers(56, 0, () -> x.entryCount());
        Check.answers(56, 0, () -> x.errorPosition());
        Check.answers(56, 1, () -> x.failedCommand());
        Check.answers(56, "e1 w1 a0 h0 s0", () -> Check.line(x, 14));
        Check.answers(56, 3, () -> x.append('n'));
        Check.answers(56, 1, () -> x.restore());
        Check.answers(58, 4, () -> x.append('d'));
        Check.answers(58, 1, () -> x.run());
    }

    private static void save() {
        PrefixCodeIndex x = new PrefixCodeIndex();
        Check.refuses(58, REFUSED, () -> x.restore());
        Check.answers(57, 0, () -> x.save());
        Check.run(x, "entry 3;entry 4;code 0 5;code 1 77;segment");
        Check.answers(58, 0, () -> x.restore());
        Check.answers(58, 0, () -> x.undoableCount());
        Check.refuses(58, REFUSED, () -> x.undo());
        Check.answers(58, 1, () -> x.segmentCount());
        Check.answers(58, 0, () -> x.addEntry(3));
        Check.run(x, "entry 4;code 0 5;code 1 77;segment;days 3;find 0");
        Check.answers(57, 2, () -> x.save());
        String before = all(x);
        for (int i = 0; i < 2; i++) {
            Check.run(x, "merge 0 1;entry 9;drop 2;join 0;days 60;entry 8");
            Check.answers(57, false, () -> all(x).equals(before));
            Check.answers(58, 2, () -> x.restore());
            Check.answers(58, before, () -> all(x));
        }
        Check.answers(58, 2, () -> x.addEntry(1));
    }

    private static void saveAndUndo() {
        PrefixCodeIndex x = new PrefixCodeIndex();
        x.addEntry(1);
        x.addEntry(2);
        Check.answers(57, 2, () -> x.save());
        Check.answers(57, 2, () -> x.undoableCount());
        x.undo();
        x.undo();
        Check.answers(57, 0, () -> x.entryCount());
        Check.answers(58, 2, () -> x.restore());
        Check.answers(58, 2, () -> x.weightOf(1));
        Check.refuses(58, REFUSED, () -> x.undo());
    }
}
