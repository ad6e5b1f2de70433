/** The boundary cases of promises 38 to 47: fading, totals, means and the consistency check. */
final class FadingBoundaries extends Boundaries {
    private FadingBoundaries() {
    }

    @Sentence(in = "Promise 38", words = "Returns the number of days, at least 1.")
    static void daysAtLeast1() {
        for (int weight = 1; weight <= 9; weight++) {
            PrefixCodeIndex x = entries(weight);
            int lifetime = 10 * weight;
            answers(lifetime + 1, () -> x.daysUntilFaded(0));
            passAll(x, lifetime);
            answers(1, () -> x.daysUntilFaded(0));
            answers(1, () -> x.pass(1));
        }
        PrefixCodeIndex y = oldest();
        answers(1, () -> y.daysUntilFaded(0));
        y.touch(0);
        answers(151, () -> y.daysUntilFaded(0));
    }

    /** An entry as old as one can be. */
    private static PrefixCodeIndex oldest() {
        PrefixCodeIndex x = entryWith(7);
        searchAll(x, 30);
        passAll(x, 150);
        return x;
    }

    @Sentence(in = "Promise 38", words = "Throws `NoSuchElementException` if no entry has this id")
    static void daysUntilFadedMissing() {
        answers(44, () -> busy().daysUntilFaded(0));
        answers(19, () -> busy().daysUntilFaded(7));
        refusesMissing((x, id) -> x.daysUntilFaded(id));
    }

    @Sentence(in = "Promise 39", words = "Returns the same number as daysUntilFaded, but lets days pass on a copy.")
    static void daysOnACopy() {
        answers(151, () -> {
            PrefixCodeIndex x = oldest();
            x.touch(0);
            return x.daysUntilFadedByDays(0);
        });
        answers(1, () -> oldest().daysUntilFadedByDays(0));
        answers(11, () -> entries(1).daysUntilFadedByDays(0));
        same(Boundaries::busy, () -> after(Boundaries::busy, x -> x.daysUntilFadedByDays(0)));
        same(FadingBoundaries::oldest, () -> after(FadingBoundaries::oldest, x -> x.daysUntilFadedByDays(0)));
    }

    @Sentence(in = "Promise 39", words = "Throws `NoSuchElementException` if no entry has this id")
    static void daysUntilFadedByDaysMissing() {
        answers(44, () -> busy().daysUntilFadedByDays(0));
        answers(19, () -> busy().daysUntilFadedByDays(7));
        refusesMissing((x, id) -> x.daysUntilFadedByDays(id));
    }

    @Sentence(in = "Promise 40", words = "`days`: the number of days, 1 to 60")
    static void fadingWithinDays() {
        PrefixCodeIndex x = entries(6, 6, 1);
        answers(0, () -> x.fadingWithin(1));
        answers(1, () -> x.fadingWithin(60));
        answers(0, () -> x.fadingWithin(10));
        answers(1, () -> x.fadingWithin(11));
        x.pass(1);
        answers(3, () -> x.fadingWithin(60));
        answers(1, () -> x.fadingWithin(59));
        x.pass(9);
        answers(1, () -> x.fadingWithin(1));
        answers(0, () -> new PrefixCodeIndex().fadingWithin(1));
        answers(0, () -> new PrefixCodeIndex().fadingWithin(60));
        PrefixCodeIndex full = fullIndex();
        full.pass(10);
        answers(2, () -> full.fadingWithin(1));
        answers(2, () -> full.fadingWithin(10));
        answers(4, () -> full.fadingWithin(11));
        answers(12, () -> full.fadingWithin(60));
    }

    @Sentence(in = "Promise 40", words = "Throws `IllegalArgumentException` if the number of days is out of range")
    static void fadingWithinOutOfRange() {
        refusesDays((x, days) -> x.fadingWithin(days));
    }

    @Sentence(in = "Promise 41", words = "Returns the number of entries that have been added so far.")
    static void addedTotal() {
        PrefixCodeIndex x = fullIndex();
        answers(20, () -> x.addedTotal());
        refuses(REFUSED, () -> x.addEntry(1));
        refuses(UNFIT, () -> x.addEntry(0));
        answers(20, () -> x.addedTotal());
        x.removeEntry(0);
        answers(20, () -> x.addedTotal());
        x.addEntry(1);
        answers(21, () -> x.addedTotal());
        x.undo();
        answers(20, () -> x.addedTotal());
    }

    @Sentence(in = "Promise 42", words = "Returns the number of entries that have been removed so far.")
    static void removedTotal() {
        PrefixCodeIndex x = entries(1, 1, 1, 1);
        x.merge(0, 1);
        x.addCode(1, 5);
        x.removeCode(1, 5);
        answers(0, () -> x.removedTotal());
        x.removeEntry(1);
        answers(1, () -> x.removedTotal());
        refuses(MISSING, () -> x.removeEntry(1));
        x.pass(11);
        answers(1, () -> x.removedTotal());
        x.undo();
        x.removeEntry(2);
        x.removeEntry(3);
        answers(3, () -> x.removedTotal());
        x.undo();
        answers(2, () -> x.removedTotal());
    }

    @Sentence(in = "Promise 43", words = "Returns the number of entries that have left the index by merging so far.")
    static void mergedTotal() {
        PrefixCodeIndex x = entries(1, 1, 1, 1);
        x.removeEntry(0);
        answers(0, () -> x.mergedTotal());
        x.merge(1, 2);
        answers(1, () -> x.mergedTotal());
        refuses(MISSING, () -> x.merge(1, 2));
        refuses(UNFIT, () -> x.merge(2, 2));
        answers(1, () -> x.mergedTotal());
        x.merge(2, 3);
        x.pass(11);
        answers(2, () -> x.mergedTotal());
        x.undo();
        x.undo();
        answers(1, () -> x.mergedTotal());
    }

    @Sentence(in = "Promise 44", words = "Returns the number of entries that have faded so far.")
    static void fadedTotal() {
        PrefixCodeIndex x = entries(1, 1, 2, 9);
        x.removeEntry(0);
        x.pass(10);
        answers(0, () -> x.fadedTotal());
        x.pass(1);
        answers(1, () -> x.fadedTotal());
        x.merge(2, 3);
        answers(1, () -> x.fadedTotal());
        x.pass(60);
        x.pass(60);
        answers(2, () -> x.fadedTotal());
        x.pass(60);
        answers(2, () -> x.fadedTotal());
        x.undo();
        x.undo();
        answers(1, () -> x.fadedTotal());
    }

    @Sentence(in = "Promise 45", words = "Throws `ArithmeticException` if there are no entries")
    static void meanCodesOfNone() {
        refuses(UNDIVIDED, PrefixCodeIndex::new, x -> x.meanCodes());
        answers(0.0, () -> entries(1).meanCodes());
        answers(6.0, () -> entryWith(1, 2, 3, 4, 5, 6).meanCodes());
        answers(0.0, () -> fullIndex().meanCodes());
        answers(2.6, () -> busy().meanCodes());
        PrefixCodeIndex x = entryWith(1);
        x.removeEntry(0);
        refuses(UNDIVIDED, () -> x.meanCodes());
        x.undo();
        answers(1.0, () -> x.meanCodes());
        x.pass(51);
        refuses(UNDIVIDED, () -> x.meanCodes());
        PrefixCodeIndex y = entries(1, 1, 1);
        y.addCode(2, 9);
        answers(1.0 / 3.0, () -> y.meanCodes());
    }

    @Sentence(in = "Promise 46", words = "Throws `ArithmeticException` if no entry has been added")
    static void fadedShareOfNone() {
        refuses(UNDIVIDED, PrefixCodeIndex::new, x -> x.fadedShare());
        answers(0.0f, () -> entries(1).fadedShare());
        answers(0.125f, () -> busy().fadedShare());
        PrefixCodeIndex x = entries(1);
        x.removeEntry(0);
        answers(0.0f, () -> x.fadedShare());
        x.undo();
        x.undo();
        refuses(UNDIVIDED, () -> x.fadedShare());
        x.addEntry(1);
        x.pass(11);
        answers(1.0f, () -> x.fadedShare());
        x.addEntry(1);
        x.addEntry(1);
        answers(1.0f / 3.0f, () -> x.fadedShare());
        PrefixCodeIndex y = new PrefixCodeIndex();
        y.save();
        y.addEntry(1);
        y.restore();
        refuses(UNDIVIDED, () -> y.fadedShare());
    }

    @Sentence(in = "Promise 47", words = "Checks the index: resultCount and resultCountByScan agree for the prefix without "
            + "digits and all prefixes of 1 digit")
    static void consistent() {
        answers(true, () -> new PrefixCodeIndex().isConsistent());
        answers(true, () -> fullIndex().isConsistent());
        answers(true, () -> corners().isConsistent());
        answers(true, () -> busy().isConsistent());
        answers(true, () -> oldest().isConsistent());
        PrefixCodeIndex x = fullIndex();
        for (int id = 0; id < 20; id++) {
            give(x, id, 0, 999, 50 * id + 1, 50 * id + 2, 50 * id + 11, 50 * id + 48);
        }
        answers(true, () -> x.isConsistent());
        answers(19, () -> x.removeEntry(0));
        answers(true, () -> x.isConsistent());
        answers(2, () -> x.pass(11));
        answers(true, () -> x.isConsistent());
        x.undo();
        answers(true, () -> x.isConsistent());
        same(Boundaries::busy, () -> after(Boundaries::busy, y -> y.isConsistent()));
    }
}
