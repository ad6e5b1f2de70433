import java.util.NoSuchElementException;

/** Promises 12 to 24: what is told of entries and segments. */
public final class EntriesTest {
    private static final Class<NoSuchElementException> MISSING = NoSuchElementException.class;
    private static final Class<IllegalArgumentException> UNFIT = IllegalArgumentException.class;
    private static final Class<IndexOutOfBoundsException> OUTSIDE = IndexOutOfBoundsException.class;

    public static void main(String[] args) {
        positions();
        properties();
        lifetime();
        codes();
        segments();
        Check.finish();
    }

    private static void positions() {
        PrefixCodeIndex x = new PrefixCodeIndex();
        Check.answers(12, 0, () -> x.entryCount());
        Check.refuses(13, OUTSIDE, () -> x.idAt(0));
        for (int i = 0; i < 5; i++) {
            x.addEntry(9 - i);
        }
        x.removeEntry(0);
        x.removeEntry(3);
        Check.answers(12, 3, () -> x.entryCount());
        Check.answers(13, 1, () -> x.idAt(0));
        Check.answers(13, 2, () -> x.idAt(1));
        Check.answers(13, 4, () -> x.idAt(2));
        Check.refuses(13, OUTSIDE, () -> x.idAt(3));
        Check.refuses(13, OUTSIDE, () -> x.idAt(-1));
        Check.refuses(13, OUTSIDE, () -> x.idAt(20));
    }

    private static void properties() {
        PrefixCodeIndex x = new PrefixCodeIndex();
        x.addEntry(4);
        x.startSegment();
        x.addEntry(9);
        x.addCode(1, 8);
        x.pass(3);
        x.search(3, 8);
        x.search(3, 8);
        x.pass(2);
        Check.answers(14, 4, () -> x.weightOf(0));
        Check.answers(14, 9, () -> x.weightOf(1));
        Check.answers(15, 5, () -> x.ageOf(0));
        Check.answers(15, 2, () -> x.ageOf(1));
        Check.answers(16, 0, () -> x.hitsOf(0));
        Check.answers(16, 2, () -> x.hitsOf(1));
        Check.answers(17, 40, () -> x.lifetimeOf(0));
        Check.answers(17, 100, () -> x.lifetimeOf(1));
        Check.answers(18, 0, () -> x.segmentOf(0));
        Check.answers(18, 1, () -> x.segmentOf(1));
        Check.answers(19, 0, () -> x.codeCount(0));
        Check.answers(19, 1, () -> x.codeCount(1));
        for (int id : new int[] {-1, 2, Integer.MAX_VALUE, Integer.MIN_VALUE}) {
            Check.refuses(14, MISSING, () -> x.weightOf(id));
            Check.refuses(15, MISSING, () -> x.ageOf(id));
            Check.refuses(16, MISSING, () -> x.hitsOf(id));
            Check.refuses(17, MISSING, () -> x.lifetimeOf(id));
            Check.refuses(18, MISSING, () -> x.segmentOf(id));
            Check.refuses(19, MISSING, () -> x.codeCount(id));
        }
    }

    private static void lifetime() {
        PrefixCodeIndex x = new PrefixCodeIndex();
        x.addEntry(1);
        x.addCode(0, 0);
        for (int hits = 1; hits <= 27; hits++) {
            x.search(0, 0);
        }
        Check.answers(17, 145, () -> x.lifetimeOf(0));
        x.search(0, 0);
        Check.answers(17, 150, () -> x.lifetimeOf(0));
        x.search(0, 0);
        Check.answers(17, 150, () -> x.lifetimeOf(0));
        Check.answers(16, 29, () -> x.hitsOf(0));
    }

    private static void codes() {
        PrefixCodeIndex x = new PrefixCodeIndex();
        x.addEntry(1);
        x.addEntry(1);
        x.addCode(0, 420);
        x.addCode(0, 7);
        x.addCode(0, 70);
        Check.answers(20, 7, () -> x.codeAt(0, 0));
        Check.answers(20, 70, () -> x.codeAt(0, 1));
        Check.answers(20, 420, () -> x.codeAt(0, 2));
        Check.refuses(20, OUTSIDE, () -> x.codeAt(0, 3));
        Check.refuses(20, OUTSIDE, () -> x.codeAt(0, -1));
        Check.refuses(20, OUTSIDE, () -> x.codeAt(1, 0));
        Check.refuses(20, MISSING, () -> x.codeAt(2, -1));
        Check.answers(21, true, () -> x.hasCode(0, 70));
        Check.answers(21, false, () -> x.hasCode(0, 700));
        Check.answers(21, false, () -> x.hasCode(1, 70));
        Check.refuses(21, MISSING, () -> x.hasCode(2, 1000));
        Check.refuses(21, UNFIT, () -> x.hasCode(0, 1000));
        Check.refuses(21, UNFIT, () -> x.hasCode(0, -1));
        Check.answers(22, true, () -> x.matches(0, 0, 0));
        Check.answers(22, true, () -> x.matches(0, 1, 0));
        Check.answers(22, true, () -> x.matches(0, 2, 42));
        Check.answers(22, true, () -> x.matches(0, 2, 7));
        Check.answers(22, true, () -> x.matches(0, 3, 7));
        Check.answers(22, false, () -> x.matches(0, 1, 7));
        Check.answers(22, false, () -> x.matches(0, 3, 42));
        Check.answers(22, false, () -> x.matches(1, 0, 0));
        Check.refuses(22, MISSING, () -> x.matches(2, 4, 0));
        Check.refuses(22, UNFIT, () -> x.matches(0, 4, 0));
        Check.refuses(22, UNFIT, () -> x.matches(0, 0, 1));
        Check.refuses(22, UNFIT, () -> x.matches(1, 2, 100));
        Check.refuses(22, UNFIT, () -> x.matches(1, 2, -1));
    }

    private static void segments() {
        PrefixCodeIndex x = new PrefixCodeIndex();
        Check.answers(23, 1, () -> x.segmentCount());
        Check.answers(24, 0, () -> x.entriesIn(0));
        Check.refuses(24, OUTSIDE, () -> x.entriesIn(1));
        x.addEntry(1);
        x.addEntry(1);
        x.startSegment();
        x.addEntry(1);
        x.startSegment();
        Check.answers(23, 3, () -> x.segmentCount());
        Check.answers(24, 2, () -> x.entriesIn(0));
        Check.answers(24, 1, () -> x.entriesIn(1));
        Check.answers(24, 0, () -> x.entriesIn(2));
        Check.refuses(24, OUTSIDE, () -> x.entriesIn(3));
        Check.refuses(24, OUTSIDE, () -> x.entriesIn(-1));
        x.joinSegments(0);
        Check.answers(23, 2, () -> x.segmentCount());
        Check.refuses(24, OUTSIDE, () -> x.entriesIn(2));
    }
}
