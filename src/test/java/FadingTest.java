import java.util.NoSuchElementException;

/** Promises 38 to 47: fading, totals and the consistency check. */
public final class FadingTest {
    private static final Class<NoSuchElementException> MISSING = NoSuchElementException.class;
    private static final Class<IllegalArgumentException> UNFIT = IllegalArgumentException.class;
    private static final Class<ArithmeticException> UNDIVIDED = ArithmeticException.class;

    public static void main(String[] args) {
        daysLeft();
        longestLife();
        fadingWithin();
        totals();
        means();
        consistency();
        Check.finish();
    }

    private static void left(PrefixCodeIndex x, int id, int due) {
        Check.answers(38, due, () -> x.daysUntilFaded(id));
        Check.answers(39, due, () -> x.daysUntilFadedByDays(id));
    }

    private static void daysLeft() {
        PrefixCodeIndex x = new PrefixCodeIndex();
        x.addEntry(1);
        x.addEntry(9);
        x.addCode(1, 4);
        left(x, 0, 11);
        left(x, 1, 91);
        x.pass(10);
        left(x, 0, 1);
        left(x, 1, 81);
        Check.answers(39, 10, () -> x.ageOf(0));
        Check.answers(39, 2, () -> x.entryCount());
        x.search(1, 0);
        left(x, 1, 96);
        x.pass(1);
        for (int id : new int[] {0, -1, 2}) {
            Check.refuses(38, MISSING, () -> x.daysUntilFaded(id));
            Check.refuses(39, MISSING, () -> x.daysUntilFadedByDays(id));
        }
        left(x, 1, 95);
    }

    private static void longestLife() {
        PrefixCodeIndex x = new PrefixCodeIndex();
        x.addEntry(9);
        x.addCode(0, 4);
        for (int i = 0; i < 20; i++) {
            x.search(0, 0);
        }
        left(x, 0, 151);
        x.pass(60);
        x.pass(60);
        x.pass(30);
        left(x, 0, 1);
        Check.answers(38, 1, () -> x.pass(1));
    }

    private static void fadingWithin() {
        PrefixCodeIndex x = new PrefixCodeIndex();
        Check.answers(40, 0, () -> x.fadingWithin(60));
        x.addEntry(1);
        x.addEntry(2);
        x.addEntry(6);
        Check.answers(40, 0, () -> x.fadingWithin(10));
        Check.answers(40, 1, () -> x.fadingWithin(11));
        Check.answers(40, 1, () -> x.fadingWithin(20));
        Check.answers(40, 2, () -> x.fadingWithin(21));
        Check.answers(40, 2, () -> x.fadingWithin(60));
        x.pass(1);
        Check.answers(40, 3, () -> x.fadingWithin(60));
        Check.answers(40, 0, () -> x.fadingWithin(1));
        Check.refuses(40, UNFIT, () -> x.fadingWithin(0));
        Check.refuses(40, UNFIT, () -> x.fadingWithin(61));
        Check.refuses(40, UNFIT, () -> x.fadingWithin(-5));
    }

    private static void totals() {
        PrefixCodeIndex x = new PrefixCodeIndex();
        for (int i = 0; i < 7; i++) {
            x.addEntry(i == 0 ? 1 : 9);
        }
        x.removeEntry(1);
        x.removeEntry(2);
        x.removeEntry(3);
        x.merge(4, 5);
        x.merge(5, 6);
        x.pass(11);
        Check.answers(41, 7, () -> x.addedTotal());
        Check.answers(42, 3, () -> x.removedTotal());
        Check.answers(43, 2, () -> x.mergedTotal());
        Check.answers(44, 1, () -> x.fadedTotal());
        x.undo();
        Check.answers(44, 0, () -> x.fadedTotal());
        x.undo();
        Check.answers(43, 1, () -> x.mergedTotal());
        x.undo();
        x.undo();
        Check.answers(42, 2, () -> x.removedTotal());
        x.undo();
        x.undo();
        x.undo();
        Check.answers(41, 6, () -> x.addedTotal());
    }

    private static void means() {
        PrefixCodeIndex x = new PrefixCodeIndex();
        Check.refuses(45, UNDIVIDED, () -> x.meanCodes());
        Check.refuses(46, UNDIVIDED, () -> x.fadedShare());
        x.addEntry(1);
        Check.answers(45, 0.0, () -> x.meanCodes());
        Check.answers(46, 0.0f, () -> x.fadedShare());
        x.addEntry(9);
        x.addEntry(9);
        x.addCode(0, 1);
        x.addCode(1, 1);
        Check.answers(45, 2.0 / 3.0, () -> x.meanCodes());
        x.pass(11);
        Check.answers(45, 0.5, () -> x.meanCodes());
        Check.answers(46, 1.0f / 3.0f, () -> x.fadedShare());
        x.removeEntry(1);
        x.removeEntry(2);
        Check.refuses(45, UNDIVIDED, () -> x.meanCodes());
        Check.answers(46, 1.0f / 3.0f, () -> x.fadedShare());
    }

    private static void consistency() {
        PrefixCodeIndex x = new PrefixCodeIndex();
        Check.answers(47, true, () -> x.isConsistent());
        for (int i = 0; i < 20; i++) {
            x.addEntry(i % 9 + 1);
        }
        for (int i = 0; i < 120; i++) {
            x.addCode(i / 6, i % 6 * 160 + i);
        }
        Check.answers(47, true, () -> x.isConsistent());
        x.pass(15);
        x.removeEntry(19);
        x.search(1, 4);
        x.pass(30);
        Check.answers(47, true, () -> x.isConsistent());
        x.undo();
        Check.answers(47, true, () -> x.isConsistent());
        PrefixCodeIndex y = new PrefixCodeIndex();
        Check.run(y, "entry 1;entry 2;entry 3;entry 4;merge 0 1;drop 2;days 60");
        Check.answers(47, "4 1 1 2", () -> y.addedTotal() + " " + y.removedTotal() + " " + y.mergedTotal() + " "
                + y.fadedTotal());
        Check.answers(47, true, () -> y.isConsistent());
    }
}
