/** The boundary cases of promises 1 to 11: a new object and the changes. */
final class ChangeBoundaries extends Boundaries {
    private ChangeBoundaries() {
    }

    @Sentence(in = "Promise 1", words = "Creates an index without entries, with one segment.")
    static void newObject() {
        PrefixCodeIndex x = new PrefixCodeIndex();
        answers(0, () -> x.entryCount());
        answers(1, () -> x.segmentCount());
        answers(0, () -> x.entriesIn(0));
        answers("0 0 0 0", () -> x.addedTotal() + " " + x.removedTotal() + " " + x.mergedTotal() + " " + x.fadedTotal());
        answers(0, () -> x.undoableCount());
        answers(true, () -> x.isConsistent());
        answers(0, () -> x.resultCount(0, 0));
        refuses(OUTSIDE, () -> x.idAt(0));
        refuses(MISSING, () -> x.weightOf(0));
        refuses(OUTSIDE, () -> x.entriesIn(1));
        refuses(OUTSIDE, () -> x.lineChar(0));
        refuses(MISSING, () -> x.errorPosition());
        refuses(MISSING, () -> x.failedCommand());
        refuses(REFUSED, () -> x.undo());
        refuses(REFUSED, () -> x.restore());
        answers(1, () -> x.append('f'));
        busy();
        answers(0, () -> new PrefixCodeIndex().entryCount());
    }

    // Promise 2

    @Sentence(in = "Promise 2", words = "Adds an entry without codes.")
    static void addEntryWithoutCodes() {
        PrefixCodeIndex x = entryWith(1, 2, 3, 4, 5, 6);
        x.removeEntry(0);
        answers(1, () -> x.addEntry(5));
        answers(0, () -> x.codeCount(1));
        answers(0, () -> x.codesWith(0, 0));
        x.undo();
        x.undo();
        answers(1, () -> x.addEntry(5));
        answers(0, () -> x.codeCount(1));
        answers(6, () -> x.codeCount(0));
        answers(2, () -> x.entryCount());
    }

    @Sentence(in = "Promise 2", words = "`weight`: the weight, 1 to 9")
    static void addEntryWeight() {
        for (int weight = 1; weight <= 9; weight++) {
            PrefixCodeIndex x = new PrefixCodeIndex();
            int due = weight;
            answers(0, () -> x.addEntry(due));
            answers(due, () -> x.weightOf(0));
        }
    }

    @Sentence(in = "Promise 2", words = "Throws `IllegalArgumentException` if the weight is out of range")
    static void addEntryOutOfRange() {
        for (int weight : new int[] {0, 10, -1, -9, LEAST, GREATEST}) {
            refuses(UNFIT, PrefixCodeIndex::new, x -> x.addEntry(weight));
            refuses(UNFIT, Boundaries::busy, x -> x.addEntry(weight));
        }
    }

    @Sentence(in = "Promise 2", words = "Throws `IllegalStateException` if 20 entries are in the index")
    static void addEntryWhenFull() {
        PrefixCodeIndex x = fullIndex();
        x.undo();
        answers(19, () -> x.addEntry(9));
        refuses(REFUSED, () -> x.addEntry(9));
        refuses(REFUSED, Boundaries::fullIndex, y -> y.addEntry(1));
        refuses(REFUSED, Boundaries::fullIndex, y -> y.addEntry(9));
    }

    // Promise 3

    @Sentence(in = "Promise 3", words = "`code`: the code, 0 to 999")
    static void addCodeRange() {
        PrefixCodeIndex x = entries(1);
        answers(1, () -> x.addCode(0, 999));
        answers(2, () -> x.addCode(0, 0));
        answers(3, () -> x.addCode(0, 998));
        answers(4, () -> x.addCode(0, 1));
        answers("e0 w1 a0 h0 s0 000 001 998 999", () -> Check.entry(x, 0));
    }

    @Sentence(in = "Promise 3", words = "Throws `NoSuchElementException` if no entry has this id")
    static void addCodeMissing() {
        answers(5, () -> busy().addCode(0, 9));
        answers(1, () -> busy().addCode(7, 9));
        refusesMissing((x, id) -> x.addCode(id, 9));
    }

    @Sentence(in = "Promise 3", words = "Throws `IllegalArgumentException` if the code is out of range")
    static void addCodeOutOfRange() {
        refusesCodes((x, code) -> x.addCode(0, code));
        refusesCodes((x, code) -> x.addCode(7, code));
    }

    @Sentence(in = "Promise 3", words = "Throws `IllegalStateException` if the entry has this code, or has 6 codes")
    static void addCodeRefused() {
        PrefixCodeIndex x = entryWith(5, 6, 7, 8, 9);
        refuses(REFUSED, () -> x.addCode(0, 5));
        refuses(REFUSED, () -> x.addCode(0, 9));
        answers(6, () -> x.addCode(0, 4));
        refuses(REFUSED, () -> x.addCode(0, 10));
        refuses(REFUSED, () -> x.addCode(0, 4));
        answers(5, () -> x.removeCode(0, 7));
        answers(6, () -> x.addCode(0, 7));
        refuses(REFUSED, () -> entryWith(0).addCode(0, 0));
        for (int code : new int[] {1, 7, 420, 421}) {
            refuses(REFUSED, Boundaries::busy, y -> y.addCode(0, code));
        }
        for (int code : new int[] {0, 999, 1, 501}) {
            refuses(REFUSED, Boundaries::busy, y -> y.addCode(3, code));
        }
    }

    // Promise 4

    @Sentence(in = "Promise 4", words = "`code`: the code, 0 to 999")
    static void removeCodeRange() {
        PrefixCodeIndex x = entryWith(0, 500, 999);
        answers(2, () -> x.removeCode(0, 0));
        answers(1, () -> x.removeCode(0, 999));
        answers("e0 w5 a0 h0 s0 500", () -> Check.entry(x, 0));
        answers(0, () -> x.removeCode(0, 500));
        answers("e0 w5 a0 h0 s0", () -> Check.entry(x, 0));
        PrefixCodeIndex y = entryWith(1, 2, 3, 4, 5, 6);
        answers(5, () -> y.removeCode(0, 6));
        answers("e0 w5 a0 h0 s0 001 002 003 004 005", () -> Check.entry(y, 0));
    }

    @Sentence(in = "Promise 4", words = "Throws `NoSuchElementException` if no entry has this id")
    static void removeCodeMissing() {
        answers(3, () -> busy().removeCode(0, 7));
        refusesMissing((x, id) -> x.removeCode(id, 7));
    }

    @Sentence(in = "Promise 4", words = "Throws `IllegalArgumentException` if the code is out of range")
    static void removeCodeOutOfRange() {
        refusesCodes((x, code) -> x.removeCode(3, code));
        refusesCodes((x, code) -> x.removeCode(7, code));
    }

    @Sentence(in = "Promise 4", words = "Throws `IllegalStateException` if the entry does not have this code")
    static void removeCodeAbsent() {
        for (int code : new int[] {0, 6, 8, 42, 419, 422, 999}) {
            refuses(REFUSED, Boundaries::busy, x -> x.removeCode(0, code));
        }
        refuses(REFUSED, Boundaries::busy, x -> x.removeCode(7, 0));
        PrefixCodeIndex x = entryWith(7);
        answers(0, () -> x.removeCode(0, 7));
        refuses(REFUSED, () -> x.removeCode(0, 7));
    }

    // Promises 5 and 6

    @Sentence(in = "Promise 5", words = "Throws `NoSuchElementException` if no entry has this id")
    static void removeEntryMissing() {
        answers(4, () -> busy().removeEntry(0));
        answers(4, () -> busy().removeEntry(7));
        answers(0, () -> entries(1).removeEntry(0));
        answers(19, () -> fullIndex().removeEntry(19));
        refusesMissing((x, id) -> x.removeEntry(id));
        PrefixCodeIndex x = entries(1, 1);
        x.removeEntry(1);
        refuses(MISSING, () -> x.removeEntry(1));
        answers(1, () -> x.removedTotal());
    }

    @Sentence(in = "Promise 6", words = "Throws `NoSuchElementException` if no entry has this id")
    static void touchMissing() {
        answers(2, () -> busy().touch(0));
        answers(2, () -> busy().touch(7));
        answers(0, () -> entries(1).touch(0));
        refusesMissing((x, id) -> x.touch(id));
        PrefixCodeIndex x = entries(1);
        x.pass(10);
        answers(10, () -> x.touch(0));
        x.pass(10);
        answers(1, () -> x.pass(1));
        refuses(MISSING, () -> x.touch(0));
    }

    // Promise 7

    @Sentence(in = "Promise 7", words = "Throws `NoSuchElementException` if no entry has this id, for either")
    static void mergeMissing() {
        answers(5, () -> busy().merge(1, 0));
        answers(4, () -> busy().merge(0, 7));
        refusesMissing((x, id) -> x.merge(id, 0));
        refusesMissing((x, id) -> x.merge(0, id));
        refusesMissing((x, id) -> x.merge(id, id));
    }

    @Sentence(in = "Promise 7", words = "Throws `IllegalArgumentException` if both are the same")
    static void mergeSame() {
        for (int id : new int[] {0, 1, 2, 3, 7}) {
            refuses(UNFIT, Boundaries::busy, x -> x.merge(id, id));
        }
        refuses(UNFIT, () -> entries(1), x -> x.merge(0, 0));
    }

    @Sentence(in = "Promise 7", words = "Throws `IllegalStateException` if the other entry would have more than 6 codes")
    static void mergeTooMany() {
        answers(6, () -> twoEntries(new int[] {1, 2, 3}, new int[] {4, 5, 6}).merge(0, 1));
        answers(6, () -> twoEntries(new int[] {1, 2, 3, 4}, new int[] {3, 4, 5, 6}).merge(0, 1));
        answers(6, () -> twoEntries(new int[] {1, 2, 3, 4, 5, 6}, new int[] {1, 2, 3, 4, 5, 6}).merge(0, 1));
        answers(6, () -> twoEntries(new int[] {}, new int[] {1, 2, 3, 4, 5, 6}).merge(0, 1));
        answers(6, () -> twoEntries(new int[] {1, 2, 3, 4, 5, 6}, new int[] {}).merge(0, 1));
        answers(0, () -> twoEntries(new int[] {}, new int[] {}).merge(0, 1));
        int[][][] tooMany = {
            {{1, 2, 3, 4}, {5, 6, 7}}, {{1, 2, 3}, {4, 5, 6, 7}}, {{1, 2, 3, 4}, {4, 5, 6, 7}},
            {{1, 2, 3, 4, 5, 6}, {7}}, {{7}, {1, 2, 3, 4, 5, 6}}, {{1, 2, 3, 4, 5, 6}, {7, 8, 9, 10, 11, 12}},
        };
        for (int[][] codes : tooMany) {
            refuses(REFUSED, () -> twoEntries(codes[0], codes[1]), x -> x.merge(0, 1));
            refuses(REFUSED, () -> twoEntries(codes[0], codes[1]), x -> x.merge(1, 0));
        }
        refuses(REFUSED, Boundaries::busy, x -> x.merge(0, 3));
        refuses(REFUSED, Boundaries::busy, x -> x.merge(3, 2));
    }

    private static PrefixCodeIndex twoEntries(int[] codes, int[] others) {
        PrefixCodeIndex x = entries(3, 8);
        give(x, 0, codes);
        give(x, 1, others);
        return x;
    }

    // Promises 8 and 9

    @Sentence(in = "Promise 8", words = "Throws `IllegalStateException` if there are 5 segments")
    static void startSegmentWhenFull() {
        PrefixCodeIndex x = segments(4);
        answers(4, () -> x.startSegment());
        refuses(REFUSED, () -> x.startSegment());
        x.joinSegments(2);
        answers(4, () -> x.startSegment());
        refuses(REFUSED, () -> x.startSegment());
        refuses(REFUSED, () -> segments(5), y -> y.startSegment());
        answers(1, () -> new PrefixCodeIndex().startSegment());
    }

    @Sentence(in = "Promise 9", words = "Throws `IndexOutOfBoundsException` if there is no such segment")
    static void joinNoSegment() {
        for (int segment : new int[] {-1, 3, 4, 5, LEAST, GREATEST}) {
            refuses(OUTSIDE, Boundaries::busy, x -> x.joinSegments(segment));
        }
        refuses(OUTSIDE, PrefixCodeIndex::new, x -> x.joinSegments(1));
        refuses(OUTSIDE, PrefixCodeIndex::new, x -> x.joinSegments(-1));
        refuses(OUTSIDE, () -> segments(5), x -> x.joinSegments(5));
        answers(2, () -> busy().joinSegments(0));
        answers(2, () -> busy().joinSegments(1));
        answers(4, () -> segments(5).joinSegments(3));
    }

    @Sentence(in = "Promise 9", words = "Throws `IllegalStateException` if it is the last segment")
    static void joinLastSegment() {
        for (int number = 1; number <= 5; number++) {
            int made = number;
            refuses(REFUSED, () -> segments(made), x -> x.joinSegments(made - 1));
        }
        PrefixCodeIndex x = segments(2);
        answers(1, () -> x.joinSegments(0));
        refuses(REFUSED, () -> x.joinSegments(0));
        refuses(REFUSED, PrefixCodeIndex::new, y -> y.joinSegments(0));
    }

    // Promise 10

    @Sentence(in = "Promise 10", words = "`digits`: the number of digits of the prefix, 0 to 3")
    static void searchDigits() {
        int[][] due = {{0, 0, 4}, {1, 0, 2}, {1, 9, 2}, {2, 0, 2}, {2, 99, 2}, {3, 0, 1}, {3, 999, 1}, {3, 500, 1}};
        for (int[] prefix : due) {
            PrefixCodeIndex x = corners();
            answers(prefix[2], () -> x.search(prefix[0], prefix[1]));
            int hits = 0;
            for (int id = 0; id < 5; id++) {
                hits += x.hitsOf(id);
            }
            int all = hits;
            answers(prefix[2], () -> all);
        }
        answers(0, () -> corners().search(3, 998));
        answers(0, () -> new PrefixCodeIndex().search(0, 0));
    }

    @Sentence(in = "Promise 10", words = "Throws `IllegalArgumentException` if there is no such prefix")
    static void searchNoPrefix() {
        refusesPrefixes((x, digits, value) -> x.search(digits, value));
        refuses(UNFIT, PrefixCodeIndex::new, x -> x.search(0, 1));
    }

    // Promise 11

    @Sentence(in = "Promise 11", words = "`days`: the number of days, 1 to 60")
    static void passDays() {
        PrefixCodeIndex x = entries(6);
        answers(0, () -> x.pass(1));
        answers(1, () -> x.ageOf(0));
        answers(0, () -> x.pass(59));
        answers(60, () -> x.ageOf(0));
        answers(1, () -> x.pass(1));
        PrefixCodeIndex y = entries(6, 5, 9);
        answers(1, () -> y.pass(60));
        answers(60, () -> y.ageOf(0));
        answers(1, () -> y.pass(1));
        answers(0, () -> new PrefixCodeIndex().pass(60));
    }

    @Sentence(in = "Promise 11", words = "Lets days pass, one after the other.")
    static void passOneAfterTheOther() {
        PrefixCodeIndex x = entries(1, 2, 3, 4, 5, 6);
        answers(5, () -> x.pass(60));
        answers(5, () -> x.fadedTotal());
        PrefixCodeIndex y = fullIndex();
        int faded = 0;
        for (int day = 1; day <= 91; day++) {
            faded += y.pass(1);
            int due = faded;
            answers(due, () -> y.fadedTotal());
        }
        answers(20, () -> y.fadedTotal());
    }

    @Sentence(in = "Promise 11", words = "Throws `IllegalArgumentException` if the number of days is out of range")
    static void passOutOfRange() {
        refusesDays((x, days) -> x.pass(days));
    }
}
