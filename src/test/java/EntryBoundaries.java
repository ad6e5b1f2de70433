/** The boundary cases of promises 12 to 24: what is told of entries and segments. */
final class EntryBoundaries extends Boundaries {
    private EntryBoundaries() {
    }

    @Sentence(in = "Promise 12", words = "Returns the number of entries.")
    static void entryCount() {
        PrefixCodeIndex x = new PrefixCodeIndex();
        answers(0, () -> x.entryCount());
        for (int added = 1; added <= 20; added++) {
            x.addEntry(1);
            int due = added;
            answers(due, () -> x.entryCount());
        }
        refuses(REFUSED, () -> x.addEntry(1));
        answers(20, () -> x.entryCount());
        x.pass(11);
        answers(0, () -> x.entryCount());
    }

    @Sentence(in = "Promise 13", words = "`position`: the position, starting at 0")
    static void idAtFirst() {
        answers(0, () -> entries(1).idAt(0));
        answers(0, () -> busy().idAt(0));
        answers(1, () -> busy().idAt(1));
        PrefixCodeIndex x = entries(1, 1, 1);
        x.removeEntry(0);
        answers(1, () -> x.idAt(0));
        answers(2, () -> x.idAt(1));
    }

    @Sentence(in = "Promise 13", words = "Throws `IndexOutOfBoundsException` if the position is negative or not less than "
            + "the number of entries")
    static void idAtOutside() {
        answers(7, () -> busy().idAt(4));
        answers(19, () -> fullIndex().idAt(19));
        for (int position : new int[] {-1, 5, 6, 7, 19, 20, LEAST, GREATEST}) {
            refuses(OUTSIDE, Boundaries::busy, x -> x.idAt(position));
        }
        refuses(OUTSIDE, PrefixCodeIndex::new, x -> x.idAt(0));
        refuses(OUTSIDE, Boundaries::fullIndex, x -> x.idAt(20));
    }

    @Sentence(in = "Promise 14", words = "Throws `NoSuchElementException` if no entry has this id")
    static void weightOfMissing() {
        answers(4, () -> busy().weightOf(0));
        answers(2, () -> busy().weightOf(7));
        refusesMissing((x, id) -> x.weightOf(id));
    }

    @Sentence(in = "Promise 15", words = "Throws `NoSuchElementException` if no entry has this id")
    static void ageOfMissing() {
        answers(2, () -> busy().ageOf(0));
        answers(13, () -> busy().ageOf(3));
        answers(2, () -> busy().ageOf(7));
        refusesMissing((x, id) -> x.ageOf(id));
    }

    @Sentence(in = "Promise 16", words = "Throws `NoSuchElementException` if no entry has this id")
    static void hitsOfMissing() {
        answers(1, () -> busy().hitsOf(0));
        answers(0, () -> busy().hitsOf(7));
        refusesMissing((x, id) -> x.hitsOf(id));
    }

    @Sentence(in = "Promise 17", words = "Throws `NoSuchElementException` if no entry has this id")
    static void lifetimeOfMissing() {
        answers(45, () -> busy().lifetimeOf(0));
        answers(20, () -> busy().lifetimeOf(7));
        refusesMissing((x, id) -> x.lifetimeOf(id));
    }

    @Sentence(in = "Promise 18", words = "Throws `NoSuchElementException` if no entry has this id")
    static void segmentOfMissing() {
        answers(0, () -> busy().segmentOf(0));
        answers(2, () -> busy().segmentOf(7));
        refusesMissing((x, id) -> x.segmentOf(id));
    }

    @Sentence(in = "Promise 19", words = "Throws `NoSuchElementException` if no entry has this id")
    static void codeCountMissing() {
        answers(4, () -> busy().codeCount(0));
        answers(6, () -> busy().codeCount(3));
        answers(0, () -> busy().codeCount(7));
        refusesMissing((x, id) -> x.codeCount(id));
    }

    // Promise 20

    @Sentence(in = "Promise 20", words = "`position`: the position, starting at 0")
    static void codeAtFirst() {
        answers(1, () -> busy().codeAt(0, 0));
        answers(7, () -> busy().codeAt(0, 1));
        answers(0, () -> busy().codeAt(3, 0));
        answers(42, () -> entryWith(42).codeAt(0, 0));
    }

    @Sentence(in = "Promise 20", words = "Throws `NoSuchElementException` if no entry has this id")
    static void codeAtMissing() {
        refusesMissing((x, id) -> x.codeAt(id, 0));
        refusesMissing((x, id) -> x.codeAt(id, -1));
    }

    @Sentence(in = "Promise 20", words = "Throws `IndexOutOfBoundsException` if the position is negative or not less than "
            + "the number of codes")
    static void codeAtOutside() {
        answers(421, () -> busy().codeAt(0, 3));
        answers(999, () -> busy().codeAt(3, 5));
        for (int position : new int[] {-1, 4, 5, 6, LEAST, GREATEST}) {
            refuses(OUTSIDE, Boundaries::busy, x -> x.codeAt(0, position));
        }
        refuses(OUTSIDE, Boundaries::busy, x -> x.codeAt(3, 6));
        refuses(OUTSIDE, Boundaries::busy, x -> x.codeAt(7, 0));
        PrefixCodeIndex x = entryWith(7, 8);
        x.removeCode(0, 7);
        answers(8, () -> x.codeAt(0, 0));
        refuses(OUTSIDE, () -> x.codeAt(0, 1));
    }

    // Promise 21

    @Sentence(in = "Promise 21", words = "`code`: the code, 0 to 999")
    static void hasCodeRange() {
        answers(true, () -> busy().hasCode(3, 0));
        answers(true, () -> busy().hasCode(3, 999));
        answers(false, () -> busy().hasCode(0, 0));
        answers(false, () -> busy().hasCode(0, 999));
        answers(false, () -> busy().hasCode(7, 0));
        answers(true, () -> busy().hasCode(3, 99));
        answers(false, () -> busy().hasCode(3, 98));
    }

    @Sentence(in = "Promise 21", words = "Throws `NoSuchElementException` if no entry has this id")
    static void hasCodeMissing() {
        refusesMissing((x, id) -> x.hasCode(id, 7));
        refusesMissing((x, id) -> x.hasCode(id, 1000));
    }

    @Sentence(in = "Promise 21", words = "Throws `IllegalArgumentException` if the code is out of range")
    static void hasCodeOutOfRange() {
        refusesCodes((x, code) -> x.hasCode(3, code));
        refusesCodes((x, code) -> x.hasCode(7, code));
    }

    // Promise 22

    @Sentence(in = "Promise 22", words = "`digits`: the number of digits of the prefix, 0 to 3")
    static void matchesDigits() {
        int[][] due = {
            // digits, value, whether entry 0, 1 and 2 match
            {0, 0, 1, 1, 1}, {1, 0, 1, 1, 0}, {1, 9, 1, 0, 1}, {2, 0, 1, 1, 0}, {2, 9, 0, 1, 0}, {2, 99, 1, 0, 1},
            {3, 0, 1, 0, 0}, {3, 9, 0, 1, 0}, {3, 999, 1, 0, 0},
        };
        for (int[] row : due) {
            for (int id = 0; id < 3; id++) {
                int entry = id;
                answers(row[2 + entry] == 1, () -> corners().matches(entry, row[0], row[1]));
            }
            answers(false, () -> corners().matches(3, row[0], row[1]));
        }
    }

    @Sentence(in = "Promise 22", words = "Throws `NoSuchElementException` if no entry has this id")
    static void matchesMissing() {
        refusesMissing((x, id) -> x.matches(id, 0, 0));
        refusesMissing((x, id) -> x.matches(id, 4, 0));
    }

    @Sentence(in = "Promise 22", words = "Throws `IllegalArgumentException` if there is no such prefix")
    static void matchesNoPrefix() {
        refusesPrefixes((x, digits, value) -> x.matches(0, digits, value));
        refusesPrefixes((x, digits, value) -> x.matches(7, digits, value));
    }

    // Promises 23 and 24

    @Sentence(in = "Promise 23", words = "Returns the number, 1 to 5.")
    static void segmentCount() {
        for (int number = 1; number <= 5; number++) {
            int due = number;
            answers(due, () -> segments(due).segmentCount());
        }
        PrefixCodeIndex x = segments(5);
        for (int number = 4; number >= 1; number--) {
            x.joinSegments(0);
            int due = number;
            answers(due, () -> x.segmentCount());
        }
        refuses(REFUSED, () -> x.joinSegments(0));
        answers(1, () -> x.segmentCount());
    }

    @Sentence(in = "Promise 24", words = "Throws `IndexOutOfBoundsException` if there is no such segment")
    static void entriesInNoSegment() {
        answers(4, () -> busy().entriesIn(0));
        answers(0, () -> busy().entriesIn(1));
        answers(1, () -> busy().entriesIn(2));
        answers(1, () -> segments(5).entriesIn(4));
        for (int segment : new int[] {-1, 3, 4, 5, LEAST, GREATEST}) {
            refuses(OUTSIDE, Boundaries::busy, x -> x.entriesIn(segment));
        }
        refuses(OUTSIDE, () -> segments(5), x -> x.entriesIn(5));
        refuses(OUTSIDE, PrefixCodeIndex::new, x -> x.entriesIn(1));
        refuses(OUTSIDE, PrefixCodeIndex::new, x -> x.entriesIn(-1));
    }
}
