/** The boundary cases of promises 25 to 37: results, codes and what entries share. */
final class PrefixBoundaries extends Boundaries {
    /** The prefixes at both ends of each number of digits. */
    private static final int[][] ENDS = {{0, 0}, {1, 0}, {1, 9}, {2, 0}, {2, 99}, {3, 0}, {3, 999}, {3, 998}};

    private PrefixBoundaries() {
    }

    /** The answers that are due on corners() for the prefixes of ENDS. */
    private static void answersAtEnds(UseOfPrefix call, Object... due) {
        for (int i = 0; i < ENDS.length; i++) {
            int[] prefix = ENDS[i];
            answers(due[i], () -> Check.outcome(() -> call.of(corners(), prefix[0], prefix[1])));
        }
    }

    // Promises 25 and 26

    @Sentence(in = "Promise 25", words = "`digits`: the number of digits of the prefix, 0 to 3")
    static void resultCountDigits() {
        answersAtEnds((x, digits, value) -> x.resultCount(digits, value), 4, 2, 2, 2, 2, 1, 1, 0);
        answers(0, () -> new PrefixCodeIndex().resultCount(0, 0));
        answers(0, () -> new PrefixCodeIndex().resultCount(3, 999));
        PrefixCodeIndex x = fullIndex();
        for (int id = 0; id < 20; id++) {
            x.addCode(id, 999);
        }
        answers(20, () -> x.resultCount(0, 0));
        answers(20, () -> x.resultCount(3, 999));
    }

    @Sentence(in = "Promise 25", words = "Throws `IllegalArgumentException` if there is no such prefix")
    static void resultCountNoPrefix() {
        refusesPrefixes((x, digits, value) -> x.resultCount(digits, value));
        refuses(UNFIT, PrefixCodeIndex::new, x -> x.resultCount(4, 0));
    }

    @Sentence(in = "Promise 26", words = "`digits`: the number of digits of the prefix, 0 to 3")
    static void resultCountByScanDigits() {
        answersAtEnds((x, digits, value) -> x.resultCountByScan(digits, value), 4, 2, 2, 2, 2, 1, 1, 0);
        answers(0, () -> new PrefixCodeIndex().resultCountByScan(0, 0));
        answers(0, () -> fullIndex().resultCountByScan(0, 0));
    }

    @Sentence(in = "Promise 26", words = "Throws `IllegalArgumentException` if there is no such prefix")
    static void resultCountByScanNoPrefix() {
        refusesPrefixes((x, digits, value) -> x.resultCountByScan(digits, value));
        refuses(UNFIT, PrefixCodeIndex::new, x -> x.resultCountByScan(4, 0));
    }

    // Promise 27

    @Sentence(in = "Promise 27", words = "`digits`: the number of digits of the prefix, 0 to 3")
    static void resultAtDigits() {
        answersAtEnds((x, digits, value) -> x.resultAt(digits, value, 0), 4, 1, 2, 1, 2, 0, 0,
                "throws java.util.NoSuchElementException");
    }

    @Sentence(in = "Promise 27", words = "`rank`: the rank, starting at 0")
    static void resultAtFirst() {
        answers(4, () -> corners().resultAt(0, 0, 0));
        answers(2, () -> corners().resultAt(0, 0, 1));
        answers(0, () -> corners().resultAt(3, 0, 0));
        PrefixCodeIndex x = fullIndex();
        for (int id = 0; id < 20; id++) {
            x.addCode(id, 7);
        }
        int[] due = {0, 9, 18, 1, 10, 19, 2, 11, 3, 12, 4, 13, 5, 14, 6, 15, 7, 16, 8, 17};
        for (int rank = 0; rank < 20; rank++) {
            int place = rank;
            answers(due[place], () -> x.resultAt(0, 0, place));
        }
        refuses(MISSING, () -> x.resultAt(0, 0, 20));
    }

    @Sentence(in = "Promise 27", words = "Throws `IllegalArgumentException` if there is no such prefix")
    static void resultAtNoPrefix() {
        refusesPrefixes((x, digits, value) -> x.resultAt(digits, value, 0));
        refusesPrefixes((x, digits, value) -> x.resultAt(digits, value, -1));
    }

    @Sentence(in = "Promise 27", words = "Throws `NoSuchElementException` if there is no such rank")
    static void resultAtNoRank() {
        answers(0, () -> corners().resultAt(0, 0, 3));
        for (int rank : new int[] {-1, 4, 5, 20, LEAST, GREATEST}) {
            refuses(MISSING, Boundaries::corners, x -> x.resultAt(0, 0, rank));
            refuses(MISSING, Boundaries::busy, x -> x.resultAt(0, 0, rank));
        }
        refuses(MISSING, Boundaries::busy, x -> x.resultAt(3, 8, 0));
        refuses(MISSING, Boundaries::fullIndex, x -> x.resultAt(0, 0, 0));
        refuses(MISSING, PrefixCodeIndex::new, x -> x.resultAt(0, 0, 0));
        PrefixCodeIndex x = corners();
        answers(4, () -> x.resultAt(0, 0, 0));
        refuses(MISSING, () -> x.resultAt(3, 0, 1));
    }

    // Promise 28

    @Sentence(in = "Promise 28", words = "`digits`: the number of digits of the prefix, 0 to 3")
    static void scoreOfDigits() {
        answersAtEnds((x, digits, value) -> x.scoreOf(0, digits, value), 20, 15, 15, 15, 15, 15, 15, 10);
        answersAtEnds((x, digits, value) -> x.scoreOf(1, digits, value), 30, 30, 20, 25, 20, 20, 20, 20);
    }

    @Sentence(in = "Promise 28", words = "Returns the score of an entry for a prefix, whether it matches the prefix or not.")
    static void scoreOfOthers() {
        answersAtEnds((x, digits, value) -> x.scoreOf(3, digits, value), 40, 40, 40, 40, 40, 40, 40, 40);
        answers(9, () -> {
            PrefixCodeIndex x = entries(1);
            x.pass(1);
            return x.scoreOf(0, 0, 0);
        });
    }

    @Sentence(in = "Promise 28", words = "Returns the score, which can be negative.")
    static void scoreOfNegative() {
        PrefixCodeIndex x = entries(1);
        x.addCode(0, 5);
        searchAll(x, 28);
        x.pass(10);
        answers(0, () -> x.scoreOf(0, 3, 4));
        x.pass(1);
        answers(-1, () -> x.scoreOf(0, 3, 4));
        x.pass(4);
        answers(0, () -> x.scoreOf(0, 3, 5));
        x.pass(1);
        answers(-1, () -> x.scoreOf(0, 3, 5));
        passAll(x, 134);
        answers(150, () -> x.ageOf(0));
        answers(-135, () -> x.scoreOf(0, 0, 0));
        answers(-140, () -> x.scoreOf(0, 1, 9));
        answers("0=-135", () -> Check.results(x, 0, 0));
        answers(0, () -> x.resultAt(0, 0, 0));
    }

    @Sentence(in = "Promise 28", words = "Throws `NoSuchElementException` if no entry has this id")
    static void scoreOfMissing() {
        answers(58, () -> busy().scoreOf(0, 0, 0));
        answers(18, () -> busy().scoreOf(7, 0, 0));
        refusesMissing((x, id) -> x.scoreOf(id, 0, 0));
        refusesMissing((x, id) -> x.scoreOf(id, 4, 0));
    }

    @Sentence(in = "Promise 28", words = "Throws `IllegalArgumentException` if there is no such prefix")
    static void scoreOfNoPrefix() {
        refusesPrefixes((x, digits, value) -> x.scoreOf(0, digits, value));
        refusesPrefixes((x, digits, value) -> x.scoreOf(7, digits, value));
    }

    // Promises 29 and 30

    @Sentence(in = "Promise 29", words = "Returns the number of different codes in the index that have a prefix.")
    static void codesWithDifferent() {
        answers(0, () -> new PrefixCodeIndex().codesWith(0, 0));
        PrefixCodeIndex x = fullIndex();
        answers(0, () -> x.codesWith(0, 0));
        for (int id = 0; id < 20; id++) {
            give(x, id, 500, 40 * id, 40 * id + 1, 40 * id + 2, 40 * id + 3, 40 * id + 4);
        }
        answers(101, () -> x.codesWith(0, 0));
        answers(1, () -> x.codesWith(3, 500));
        x.removeCode(0, 500);
        answers(101, () -> x.codesWith(0, 0));
        answers(1, () -> x.codesWith(3, 500));
    }

    @Sentence(in = "Promise 29", words = "`digits`: the number of digits of the prefix, 0 to 3")
    static void codesWithDigits() {
        answersAtEnds((x, digits, value) -> x.codesWith(digits, value), 7, 3, 3, 2, 2, 1, 1, 0);
    }

    @Sentence(in = "Promise 29", words = "Throws `IllegalArgumentException` if there is no such prefix")
    static void codesWithNoPrefix() {
        refusesPrefixes((x, digits, value) -> x.codesWith(digits, value));
        refuses(UNFIT, PrefixCodeIndex::new, x -> x.codesWith(1, 10));
    }

    @Sentence(in = "Promise 30", words = "`digits`: the number of digits of the prefix, 0 to 2")
    static void nextDigitsDigits() {
        answers(3, () -> corners().nextDigits(0, 0));
        answers(2, () -> corners().nextDigits(1, 0));
        answers(2, () -> corners().nextDigits(1, 9));
        answers(1, () -> corners().nextDigits(1, 5));
        answers(2, () -> corners().nextDigits(2, 0));
        answers(2, () -> corners().nextDigits(2, 99));
        answers(1, () -> corners().nextDigits(2, 9));
        refuses(UNFIT, () -> corners().nextDigits(3, 0));
    }

    @Sentence(in = "Promise 30", words = "Returns the number, 0 to 10.")
    static void nextDigitsNumber() {
        answers(0, () -> new PrefixCodeIndex().nextDigits(0, 0));
        answers(0, () -> corners().nextDigits(1, 1));
        answers(0, () -> corners().nextDigits(2, 98));
        int[][] places = {{0, 0, 100, 50}, {1, 3, 10, 305}, {2, 99, 1, 990}};
        for (int[] place : places) {
            PrefixCodeIndex x = entries(1, 1);
            for (int digit = 0; digit < 10; digit++) {
                x.addCode(digit / 6, place[3] + digit * place[2]);
                int due = digit + 1;
                answers(due, () -> x.nextDigits(place[0], place[1]));
            }
            x.removeCode(0, place[3]);
            answers(9, () -> x.nextDigits(place[0], place[1]));
        }
    }

    @Sentence(in = "Promise 30", words = "Throws `IllegalArgumentException` if there is no such prefix")
    static void nextDigitsNoPrefix() {
        refusesPrefixes((x, digits, value) -> x.nextDigits(digits, value));
        for (int value : new int[] {0, 7, 420, 999}) {
            refuses(UNFIT, Boundaries::busy, x -> x.nextDigits(3, value));
        }
        refuses(UNFIT, PrefixCodeIndex::new, x -> x.nextDigits(3, 0));
    }

    // Promises 31 to 33

    @Sentence(in = "Promise 31", words = "`code`: the code, 0 to 999")
    static void sharedDigitsRange() {
        answers(3, () -> corners().sharedDigits(0));
        answers(3, () -> corners().sharedDigits(999));
        answers(2, () -> corners().sharedDigits(1));
        answers(2, () -> corners().sharedDigits(998));
    }

    @Sentence(in = "Promise 31", words = "Returns the number, 0 to 3.")
    static void sharedDigitsNumber() {
        for (int code : new int[] {0, 1, 500, 999}) {
            answers(0, () -> new PrefixCodeIndex().sharedDigits(code));
            answers(0, () -> fullIndex().sharedDigits(code));
        }
        int[][] due = {{100, 0}, {400, 0}, {599, 1}, {10, 1}, {910, 1}, {509, 2}, {99, 2}, {500, 3}, {90, 3}};
        for (int[] row : due) {
            answers(row[1], () -> corners().sharedDigits(row[0]));
        }
    }

    @Sentence(in = "Promise 31", words = "Throws `IllegalArgumentException` if the code is out of range")
    static void sharedDigitsOutOfRange() {
        refusesCodes((x, code) -> x.sharedDigits(code));
        refuses(UNFIT, PrefixCodeIndex::new, x -> x.sharedDigits(1000));
    }

    @Sentence(in = "Promise 32", words = "`code`: the code, 0 to 999")
    static void sharedDigitsByScanRange() {
        int[][] due = {
            {0, 3}, {999, 3}, {1, 2}, {998, 2}, {100, 0}, {400, 0}, {599, 1}, {10, 1}, {910, 1}, {509, 2}, {99, 2},
            {500, 3}, {90, 3},
        };
        for (int[] row : due) {
            answers(row[1], () -> corners().sharedDigitsByScan(row[0]));
        }
        answers(0, () -> new PrefixCodeIndex().sharedDigitsByScan(0));
        answers(0, () -> fullIndex().sharedDigitsByScan(999));
    }

    @Sentence(in = "Promise 32", words = "Throws `IllegalArgumentException` if the code is out of range")
    static void sharedDigitsByScanOutOfRange() {
        refusesCodes((x, code) -> x.sharedDigitsByScan(code));
        refuses(UNFIT, PrefixCodeIndex::new, x -> x.sharedDigitsByScan(1000));
    }

    @Sentence(in = "Promise 33", words = "`code`: the code, 0 to 999")
    static void entriesWithRange() {
        answers(1, () -> corners().entriesWith(0));
        answers(1, () -> corners().entriesWith(999));
        answers(0, () -> corners().entriesWith(1));
        answers(0, () -> corners().entriesWith(998));
        answers(0, () -> new PrefixCodeIndex().entriesWith(0));
        PrefixCodeIndex x = fullIndex();
        for (int id = 0; id < 20; id++) {
            x.addCode(id, 0);
            x.addCode(id, 999);
        }
        answers(20, () -> x.entriesWith(0));
        answers(20, () -> x.entriesWith(999));
        x.removeCode(0, 0);
        answers(19, () -> x.entriesWith(0));
    }

    @Sentence(in = "Promise 33", words = "Throws `IllegalArgumentException` if the code is out of range")
    static void entriesWithOutOfRange() {
        refusesCodes((x, code) -> x.entriesWith(code));
        refuses(UNFIT, PrefixCodeIndex::new, x -> x.entriesWith(-1));
    }

    // Promise 34

    @Sentence(in = "Promise 34", words = "Returns the lowest code in the index that is greater than a code.")
    static void codeAfterLowest() {
        PrefixCodeIndex x = corners();
        int[] codes = {0, 9, 90, 500, 900, 990, 999};
        int before = -1;
        for (int code : codes) {
            int from = before;
            answers(code, () -> x.codeAfter(from));
            answers(code, () -> x.codeAfter(code - 1));
            before = code;
        }
        refuses(MISSING, () -> x.codeAfter(999));
    }

    @Sentence(in = "Promise 34", words = "`code`: the code, -1 to 999")
    static void codeAfterRange() {
        answers(0, () -> corners().codeAfter(-1));
        answers(9, () -> corners().codeAfter(0));
        answers(999, () -> corners().codeAfter(998));
        refuses(MISSING, () -> corners().codeAfter(999));
    }

    @Sentence(in = "Promise 34", words = "Throws `IllegalArgumentException` if the code is out of range")
    static void codeAfterOutOfRange() {
        for (int code : new int[] {-2, 1000, -1000, LEAST, GREATEST}) {
            refuses(UNFIT, Boundaries::busy, x -> x.codeAfter(code));
            refuses(UNFIT, PrefixCodeIndex::new, x -> x.codeAfter(code));
        }
    }

    @Sentence(in = "Promise 34", words = "Throws `NoSuchElementException` if there is none")
    static void codeAfterNone() {
        refuses(MISSING, Boundaries::busy, x -> x.codeAfter(999));
        refuses(MISSING, PrefixCodeIndex::new, x -> x.codeAfter(-1));
        refuses(MISSING, Boundaries::fullIndex, x -> x.codeAfter(0));
        refuses(MISSING, () -> entryWith(7), x -> x.codeAfter(7));
        refuses(MISSING, () -> entryWith(0), x -> x.codeAfter(0));
        answers(7, () -> entryWith(7).codeAfter(6));
        answers(0, () -> entryWith(0).codeAfter(-1));
    }

    // Promise 35

    @Sentence(in = "Promise 35", words = "Of several such codes it is the lowest one.")
    static void commonestLowest() {
        answers(0, () -> corners().commonestCode());
        PrefixCodeIndex x = entries(1, 1, 1);
        give(x, 0, 3, 998, 999);
        give(x, 1, 4, 998, 999);
        answers(998, () -> x.commonestCode());
        x.addCode(2, 3);
        answers(3, () -> x.commonestCode());
        x.addCode(2, 999);
        answers(999, () -> x.commonestCode());
        x.addCode(2, 998);
        answers(998, () -> x.commonestCode());
    }

    @Sentence(in = "Promise 35", words = "Throws `NoSuchElementException` if no entry has a code")
    static void commonestNone() {
        refuses(MISSING, PrefixCodeIndex::new, x -> x.commonestCode());
        refuses(MISSING, Boundaries::fullIndex, x -> x.commonestCode());
        answers(0, () -> entryWith(0).commonestCode());
        answers(999, () -> entryWith(999).commonestCode());
        PrefixCodeIndex x = entryWith(5);
        x.removeCode(0, 5);
        refuses(MISSING, () -> x.commonestCode());
        x.undo();
        answers(5, () -> x.commonestCode());
        x.removeEntry(0);
        refuses(MISSING, () -> x.commonestCode());
    }

    // Promises 36 and 37

    @Sentence(in = "Promise 36", words = "Returns the number of codes that two entries have in common.")
    static void sharedCodesNumber() {
        answers(0, () -> busy().sharedCodes(0, 7));
        answers(0, () -> busy().sharedCodes(7, 7));
        answers(0, () -> busy().sharedCodes(1, 2));
        answers(1, () -> busy().sharedCodes(0, 1));
        answers(1, () -> busy().sharedCodes(2, 0));
        answers(6, () -> busy().sharedCodes(3, 3));
        PrefixCodeIndex x = entries(1, 1);
        give(x, 0, 1, 2, 3, 4, 5, 6);
        give(x, 1, 6, 5, 4, 3, 2, 1);
        answers(6, () -> x.sharedCodes(0, 1));
    }

    @Sentence(in = "Promise 36", words = "Throws `NoSuchElementException` if no entry has this id, for either")
    static void sharedCodesMissing() {
        refusesMissing((x, id) -> x.sharedCodes(id, 0));
        refusesMissing((x, id) -> x.sharedCodes(0, id));
        refusesMissing((x, id) -> x.sharedCodes(id, id));
    }

    @Sentence(in = "Promise 37", words = "Of several such entries it is the one with the lowest id.")
    static void mostSimilarLowest() {
        PrefixCodeIndex x = entries(1, 1, 1, 1);
        answers(1, () -> x.mostSimilar(0));
        answers(0, () -> x.mostSimilar(1));
        answers(0, () -> x.mostSimilar(3));
        give(x, 0, 1, 2);
        give(x, 1, 3);
        give(x, 2, 1, 3);
        give(x, 3, 2, 3);
        answers(2, () -> x.mostSimilar(0));
        answers(2, () -> x.mostSimilar(1));
        answers(0, () -> x.mostSimilar(2));
        x.addCode(3, 1);
        answers(3, () -> x.mostSimilar(0));
        answers(3, () -> x.mostSimilar(2));
        x.removeEntry(0);
        answers(2, () -> x.mostSimilar(1));
    }

    @Sentence(in = "Promise 37", words = "Throws `NoSuchElementException` if no entry has this id, or there is no other entry")
    static void mostSimilarNone() {
        refusesMissing((x, id) -> x.mostSimilar(id));
        refuses(MISSING, () -> entries(1), x -> x.mostSimilar(0));
        refuses(MISSING, () -> entries(1), x -> x.mostSimilar(1));
        refuses(MISSING, () -> entryWith(1, 2, 3, 4, 5, 6), x -> x.mostSimilar(0));
        answers(1, () -> entries(1, 1).mostSimilar(0));
        answers(0, () -> entries(1, 1).mostSimilar(1));
        PrefixCodeIndex x = entries(1, 1);
        x.removeEntry(0);
        refuses(MISSING, () -> x.mostSimilar(1));
        refuses(MISSING, () -> x.mostSimilar(0));
    }
}
