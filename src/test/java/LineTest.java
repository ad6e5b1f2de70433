import java.util.NoSuchElementException;

/** Promises 48 to 50: the formatted line. */
public final class LineTest {
    private static final Class<NoSuchElementException> MISSING = NoSuchElementException.class;
    private static final Class<IllegalArgumentException> UNFIT = IllegalArgumentException.class;
    private static final Class<IndexOutOfBoundsException> OUTSIDE = IndexOutOfBoundsException.class;

    public static void main(String[] args) {
        entries();
        results();
        longLines();
        characters();
        Check.finish();
    }

    private static void entries() {
        PrefixCodeIndex x = new PrefixCodeIndex();
        for (int i = 0; i < 3; i++) {
            x.addEntry(1);
        }
        x.startSegment();
        x.addEntry(5);
        x.addCode(3, 420);
        x.addCode(3, 7);
        Check.answers(48, 22, () -> x.formatEntry(3));
        x.pass(12);
        Check.answers(48, "e3 w5 a12 h0 s1 007 420", () -> Check.entry(x, 3));
        Check.answers(48, 23, () -> x.formatEntry(3));
        Check.refuses(48, MISSING, () -> x.formatEntry(0));
        Check.answers(48, "e3 w5 a12 h0 s1 007 420", () -> Check.line(x, 23));
        x.addEntry(9);
        Check.answers(48, "e4 w9 a0 h0 s1", () -> Check.entry(x, 4));
        Check.refuses(48, OUTSIDE, () -> x.lineChar(14));
    }

    private static void results() {
        PrefixCodeIndex x = new PrefixCodeIndex();
        Check.answers(49, 0, () -> x.formatResults(0, 0));
        x.addEntry(2);
        x.addEntry(5);
        x.addEntry(2);
        x.addEntry(9);
        x.addCode(0, 100);
        x.addCode(1, 101);
        x.addCode(2, 110);
        x.addCode(2, 200);
        Check.answers(49, "1=55,2=30,0=25", () -> Check.results(x, 0, 0));
        Check.answers(49, "1=55,0=25,2=25", () -> Check.results(x, 1, 1));
        Check.answers(49, 14, () -> x.formatResults(1, 1));
        Check.answers(49, "2=25", () -> Check.results(x, 3, 200));
        Check.refuses(49, UNFIT, () -> x.formatResults(1, 10));
        Check.refuses(49, UNFIT, () -> x.formatResults(4, 0));
        Check.refuses(49, UNFIT, () -> x.formatResults(0, 1));
        Check.answers(49, "2=25", () -> Check.line(x, 4));
        Check.answers(49, 0, () -> x.formatResults(3, 999));
        Check.refuses(49, OUTSIDE, () -> x.lineChar(0));
        Check.answers(49, 0, () -> x.ageOf(0) + x.hitsOf(1));
    }

    /** Twenty entries with ids of three digits. */
    private static PrefixCodeIndex highIds() {
        PrefixCodeIndex x = new PrefixCodeIndex();
        for (int i = 0; i < 100; i++) {
            x.addEntry(9);
            x.removeEntry(i);
        }
        for (int i = 100; i < 120; i++) {
            x.addEntry(9);
            x.addCode(i, i);
            x.addCode(i, 500 + i);
        }
        return x;
    }

    private static PrefixCodeIndex oldHighIds() {
        PrefixCodeIndex x = highIds();
        for (int i = 0; i < 30; i++) {
            x.search(0, 0);
        }
        x.pass(60);
        x.pass(60);
        x.pass(30);
        return x;
    }

    private static void longLines() {
        StringBuilder due = new StringBuilder();
        for (int i = 100; i < 120; i++) {
            due.append(i > 100 ? "," : "").append(i).append("=100");
        }
        Check.answers(49, due.toString(), () -> Check.results(highIds(), 0, 0));
        Check.answers(49, due.toString().replace("=100", "=-50"), () -> Check.results(oldHighIds(), 0, 0));
        Check.answers(48, "e119 w9 a150 h30 s0 119 619", () -> Check.entry(oldHighIds(), 119));
    }

    private static void characters() {
        PrefixCodeIndex x = new PrefixCodeIndex();
        Check.refuses(50, OUTSIDE, () -> x.lineChar(0));
        Check.refuses(50, OUTSIDE, () -> x.lineChar(-1));
        x.addEntry(1);
        x.formatEntry(0);
        Check.answers(50, 'e', () -> x.lineChar(0));
        Check.answers(50, ' ', () -> x.lineChar(2));
        Check.answers(50, '0', () -> x.lineChar(13));
        Check.refuses(50, OUTSIDE, () -> x.lineChar(14));
        Check.refuses(50, OUTSIDE, () -> x.lineChar(-1));
        Check.refuses(50, OUTSIDE, () -> x.lineChar(Integer.MAX_VALUE));
    }
}
