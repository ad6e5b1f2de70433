import java.util.NoSuchElementException;

/** Promises 1 to 11: a new object and the changes. */
public final class ChangesTest {
    private static final Class<NoSuchElementException> MISSING = NoSuchElementException.class;
    private static final Class<IllegalArgumentException> UNFIT = IllegalArgumentException.class;
    private static final Class<IllegalStateException> REFUSED = IllegalStateException.class;
    private static final Class<IndexOutOfBoundsException> OUTSIDE = IndexOutOfBoundsException.class;

    public static void main(String[] args) {
        newObject();
        addEntry();
        addCode();
        removeCode();
        removeEntry();
        touch();
        merge();
        mergeRefused();
        segments();
        search();
        pass();
        passOneAfterTheOther();
        fullIndex();
        Check.finish();
    }

    private static void newObject() {
        PrefixCodeIndex x = new PrefixCodeIndex();
        Check.answers(1, 0, () -> x.entryCount());
        Check.answers(1, 1, () -> x.segmentCount());
        Check.answers(1, 0, () -> x.addedTotal() + x.removedTotal() + x.mergedTotal() + x.fadedTotal());
        Check.answers(1, 0, () -> x.undoableCount());
        Check.answers(1, true, () -> x.isConsistent());
        Check.answers(1, 0, () -> x.addEntry(1));
    }

    private static void addEntry() {
        PrefixCodeIndex x = new PrefixCodeIndex();
        Check.refuses(2, UNFIT, () -> x.addEntry(0));
        Check.refuses(2, UNFIT, () -> x.addEntry(10));
        Check.refuses(2, UNFIT, () -> x.addEntry(-1));
        Check.refuses(2, UNFIT, () -> x.addEntry(Integer.MIN_VALUE));
        for (int i = 0; i < 20; i++) {
            int id = i;
            Check.answers(2, id, () -> x.addEntry(id % 9 + 1));
        }
        Check.refuses(2, REFUSED, () -> x.addEntry(1));
        Check.refuses(2, UNFIT, () -> x.addEntry(0));
        Check.answers(2, 20, () -> x.entryCount());
        Check.answers(2, 9, () -> x.weightOf(8));
        x.removeEntry(19);
        Check.answers(2, 20, () -> x.addEntry(9));
        Check.answers(2, 21, () -> x.addedTotal());
        Check.answers(2, "e20 w9 a0 h0 s0", () -> Check.entry(x, 20));
        Check.refuses(2, REFUSED, () -> x.addEntry(9));
    }

    private static void addCode() {
        PrefixCodeIndex x = new PrefixCodeIndex();
        x.addEntry(5);
        Check.refuses(3, MISSING, () -> x.addCode(1, 1000));
        Check.refuses(3, MISSING, () -> x.addCode(-1, 5));
        Check.refuses(3, UNFIT, () -> x.addCode(0, 1000));
        Check.refuses(3, UNFIT, () -> x.addCode(0, -1));
        Check.answers(3, 1, () -> x.addCode(0, 999));
        Check.answers(3, 2, () -> x.addCode(0, 0));
        Check.refuses(3, REFUSED, () -> x.addCode(0, 999));
        Check.answers(3, 3, () -> x.addCode(0, 500));
        Check.answers(3, 4, () -> x.addCode(0, 250));
        Check.answers(3, 5, () -> x.addCode(0, 750));
        Check.answers(3, 6, () -> x.addCode(0, 1));
        Check.refuses(3, REFUSED, () -> x.addCode(0, 2));
        Check.refuses(3, REFUSED, () -> x.addCode(0, 1));
        Check.refuses(3, UNFIT, () -> x.addCode(0, 1000));
        Check.answers(3, "e0 w5 a0 h0 s0 000 001 250 500 750 999", () -> Check.entry(x, 0));
    }

    private static void removeCode() {
        PrefixCodeIndex x = new PrefixCodeIndex();
        x.addEntry(5);
        x.addCode(0, 7);
        x.addCode(0, 3);
        x.addCode(0, 5);
        Check.refuses(4, MISSING, () -> x.removeCode(1, 1000));
        Check.refuses(4, UNFIT, () -> x.removeCode(0, 1000));
        Check.refuses(4, UNFIT, () -> x.removeCode(0, -1));
        Check.refuses(4, REFUSED, () -> x.removeCode(0, 4));
        Check.answers(4, 2, () -> x.removeCode(0, 5));
        Check.refuses(4, REFUSED, () -> x.removeCode(0, 5));
        Check.answers(4, "e0 w5 a0 h0 s0 003 007", () -> Check.entry(x, 0));
        Check.answers(4, 1, () -> x.removeCode(0, 3));
        Check.answers(4, 0, () -> x.removeCode(0, 7));
        Check.answers(4, 0, () -> x.resultCount(0, 0));
    }

    private static void removeEntry() {
        PrefixCodeIndex x = new PrefixCodeIndex();
        Check.refuses(5, MISSING, () -> x.removeEntry(0));
        x.addEntry(1);
        x.addEntry(2);
        x.addEntry(3);
        x.addCode(1, 5);
        Check.answers(5, 2, () -> x.removeEntry(1));
        Check.refuses(5, MISSING, () -> x.removeEntry(1));
        Check.answers(5, 0, () -> x.entriesWith(5));
        Check.answers(5, 2, () -> x.idAt(1));
        Check.answers(5, 1, () -> x.removedTotal());
        Check.answers(5, 3, () -> x.addEntry(4));
        Check.answers(5, "e3 w4 a0 h0 s0", () -> Check.entry(x, 3));
        Check.answers(5, 2, () -> x.removeEntry(0));
        Check.answers(5, 1, () -> x.removeEntry(3));
        Check.answers(5, 0, () -> x.removeEntry(2));
    }

    private static void touch() {
        PrefixCodeIndex x = new PrefixCodeIndex();
        Check.refuses(6, MISSING, () -> x.touch(0));
        x.addEntry(2);
        x.addEntry(2);
        x.pass(12);
        Check.answers(6, 12, () -> x.touch(1));
        Check.answers(6, 0, () -> x.touch(1));
        Check.answers(6, 0, () -> x.ageOf(1));
        Check.answers(6, 12, () -> x.ageOf(0));
        Check.answers(6, 0, () -> x.hitsOf(1));
        Check.refuses(6, MISSING, () -> x.touch(2));
        Check.refuses(6, MISSING, () -> x.touch(-1));
    }

    private static void merge() {
        PrefixCodeIndex x = new PrefixCodeIndex();
        x.addEntry(2);
        x.startSegment();
        x.addEntry(7);
        x.addCode(0, 10);
        x.addCode(0, 30);
        x.addCode(1, 20);
        x.addCode(1, 30);
        x.search(2, 1);
        x.search(2, 1);
        x.pass(4);
        x.search(2, 2);
        x.pass(3);
        Check.answers(7, 3, () -> x.merge(1, 0));
        Check.answers(7, "e0 w7 a3 h3 s0 010 020 030", () -> Check.entry(x, 0));
        Check.refuses(7, MISSING, () -> x.weightOf(1));
        Check.answers(7, 1, () -> x.entryCount());
        Check.answers(7, 1, () -> x.mergedTotal());
        Check.answers(7, 0, () -> x.removedTotal());
        Check.answers(7, 0, () -> x.entriesIn(1));
        x.addEntry(1);
        Check.answers(7, 3, () -> x.merge(0, 2));
        Check.answers(7, "e2 w7 a0 h3 s1 010 020 030", () -> Check.entry(x, 2));
    }

    private static void mergeRefused() {
        PrefixCodeIndex x = new PrefixCodeIndex();
        x.addEntry(1);
        x.addEntry(1);
        for (int i = 0; i < 4; i++) {
            x.addCode(0, i);
            x.addCode(1, i + 3);
        }
        Check.refuses(7, MISSING, () -> x.merge(2, 2));
        Check.refuses(7, MISSING, () -> x.merge(0, 2));
        Check.refuses(7, MISSING, () -> x.merge(2, 0));
        Check.refuses(7, UNFIT, () -> x.merge(0, 0));
        Check.refuses(7, REFUSED, () -> x.merge(0, 1));
        Check.answers(7, "e0 w1 a0 h0 s0 000 001 002 003", () -> Check.entry(x, 0));
        Check.answers(7, "e1 w1 a0 h0 s0 003 004 005 006", () -> Check.entry(x, 1));
        x.removeCode(0, 0);
        Check.answers(7, 6, () -> x.merge(0, 1));
        Check.refuses(7, UNFIT, () -> x.merge(1, 1));
    }

    private static void segments() {
        PrefixCodeIndex x = new PrefixCodeIndex();
        Check.refuses(9, REFUSED, () -> x.joinSegments(0));
        for (int i = 0; i < 5; i++) {
            int number = i;
            x.addEntry(1);
            x.addEntry(1);
            if (number < 4) {
                Check.answers(8, number + 1, () -> x.startSegment());
            }
        }
        Check.refuses(8, REFUSED, () -> x.startSegment());
        Check.answers(8, 5, () -> x.segmentCount());
        Check.answers(8, 4, () -> x.segmentOf(9));
        Check.refuses(9, OUTSIDE, () -> x.joinSegments(5));
        Check.refuses(9, OUTSIDE, () -> x.joinSegments(-1));
        Check.refuses(9, REFUSED, () -> x.joinSegments(4));
        Check.answers(9, 4, () -> x.joinSegments(1));
        Check.answers(9, 2, () -> x.entriesIn(0));
        Check.answers(9, 4, () -> x.entriesIn(1));
        Check.answers(9, 2, () -> x.segmentOf(6));
        Check.answers(9, 3, () -> x.segmentOf(8));
        Check.refuses(9, OUTSIDE, () -> x.joinSegments(4));
        Check.answers(9, 3, () -> x.joinSegments(2));
        Check.answers(9, 4, () -> x.entriesIn(2));
        Check.answers(9, 2, () -> x.joinSegments(0));
        Check.answers(9, 6, () -> x.entriesIn(0));
        Check.answers(8, 2, () -> x.startSegment());
        Check.answers(8, 10, () -> x.addEntry(1));
        Check.answers(8, 2, () -> x.segmentOf(10));
        PrefixCodeIndex y = new PrefixCodeIndex();
        y.startSegment();
        y.addEntry(1);
        Check.answers(9, 1, () -> y.joinSegments(0));
        Check.answers(9, 0, () -> y.segmentOf(0));
    }

    private static void search() {
        PrefixCodeIndex x = new PrefixCodeIndex();
        Check.answers(10, 0, () -> x.search(0, 0));
        x.addEntry(3);
        x.addEntry(3);
        x.addEntry(3);
        x.addCode(0, 420);
        x.addCode(0, 421);
        x.addCode(1, 42);
        x.pass(5);
        Check.refuses(10, UNFIT, () -> x.search(-1, 0));
        Check.refuses(10, UNFIT, () -> x.search(4, 0));
        Check.refuses(10, UNFIT, () -> x.search(0, 1));
        Check.refuses(10, UNFIT, () -> x.search(1, 10));
        Check.refuses(10, UNFIT, () -> x.search(2, 100));
        Check.refuses(10, UNFIT, () -> x.search(3, 1000));
        Check.refuses(10, UNFIT, () -> x.search(3, -1));
        Check.answers(10, 1, () -> x.search(2, 42));
        Check.answers(10, "e0 w3 a0 h1 s0 420 421", () -> Check.entry(x, 0));
        Check.answers(10, "e1 w3 a5 h0 s0 042", () -> Check.entry(x, 1));
        Check.answers(10, 2, () -> x.search(0, 0));
        Check.answers(10, "e1 w3 a0 h1 s0 042", () -> Check.entry(x, 1));
        Check.answers(10, "e2 w3 a5 h0 s0", () -> Check.entry(x, 2));
        Check.answers(10, 0, () -> x.search(3, 999));
        Check.answers(10, 1, () -> x.search(1, 0));
    }

    private static void pass() {
        PrefixCodeIndex x = new PrefixCodeIndex();
        x.addEntry(1);
        x.addEntry(2);
        x.addEntry(1);
        x.addCode(0, 5);
        Check.refuses(11, UNFIT, () -> x.pass(0));
        Check.refuses(11, UNFIT, () -> x.pass(61));
        Check.refuses(11, UNFIT, () -> x.pass(-1));
        Check.answers(11, 0, () -> x.pass(10));
        Check.answers(11, 10, () -> x.ageOf(0));
        Check.answers(11, 2, () -> x.pass(1));
        Check.answers(11, 1, () -> x.entryCount());
        Check.answers(11, 11, () -> x.ageOf(1));
        Check.answers(11, 0, () -> x.codesWith(0, 0));
        Check.answers(11, 2, () -> x.fadedTotal());
        Check.answers(11, 0, () -> x.pass(9));
        Check.answers(11, 1, () -> x.pass(60));
        Check.answers(11, 0, () -> x.entryCount());
        Check.answers(11, 0, () -> x.pass(60));
    }

    private static void passOneAfterTheOther() {
        PrefixCodeIndex x = new PrefixCodeIndex();
        for (int weight = 1; weight <= 6; weight++) {
            x.addEntry(weight);
        }
        Check.answers(11, 5, () -> x.pass(60));
        Check.answers(11, 5, () -> x.idAt(0));
        Check.answers(11, 60, () -> x.ageOf(5));
        Check.answers(11, 1, () -> x.pass(1));
    }

    private static void fullIndex() {
        PrefixCodeIndex x = new PrefixCodeIndex();
        x.startSegment();
        for (int i = 0; i < 20; i++) {
            x.addEntry(1);
        }
        Check.answers(9, 1, () -> x.joinSegments(0));
        Check.answers(9, 20, () -> x.entriesIn(0));
        Check.answers(6, 0, () -> x.touch(19));
        Check.answers(3, 1, () -> x.addCode(19, 5));
        Check.answers(7, 1, () -> x.merge(19, 0));
        Check.answers(7, 19, () -> x.entryCount());
        Check.answers(2, 20, () -> x.addEntry(2));
        Check.answers(11, 19, () -> x.pass(11));
        Check.answers(5, 0, () -> x.removeEntry(20));
    }
}
