import java.util.NoSuchElementException;

/** Promises 25 to 37: results, codes and what entries share. */
public final class PrefixTest {
    private static final Class<NoSuchElementException> MISSING = NoSuchElementException.class;
    private static final Class<IllegalArgumentException> UNFIT = IllegalArgumentException.class;

    public static void main(String[] args) {
        emptyIndex();
        counts();
        noSuchPrefix();
        ranks();
        negativeScores();
        nextDigits();
        sharedDigits();
        codeAfter();
        commonest();
        similar();
        nothingOfGoneEntries();
        fullIndex();
        Check.finish();
    }

    private static PrefixCodeIndex sample() {
        PrefixCodeIndex x = new PrefixCodeIndex();
        x.addEntry(3);
        x.addEntry(5);
        x.addEntry(3);
        x.addEntry(9);
        x.addCode(0, 420);
        x.addCode(0, 421);
        x.addCode(0, 430);
        x.addCode(1, 420);
        x.addCode(1, 7);
        x.addCode(2, 42);
        x.addCode(2, 421);
        return x;
    }

    private static void emptyIndex() {
        PrefixCodeIndex x = new PrefixCodeIndex();
        Check.answers(25, 0, () -> x.resultCount(0, 0));
        Check.answers(26, 0, () -> x.resultCountByScan(0, 0));
        Check.answers(29, 0, () -> x.codesWith(0, 0));
        Check.answers(30, 0, () -> x.nextDigits(0, 0));
        Check.answers(31, 0, () -> x.sharedDigits(0));
        Check.answers(32, 0, () -> x.sharedDigitsByScan(0));
        Check.answers(33, 0, () -> x.entriesWith(0));
        x.addEntry(1);
        Check.answers(25, 0, () -> x.resultCount(0, 0));
        Check.answers(26, 0, () -> x.resultCountByScan(0, 0));
        Check.refuses(27, MISSING, () -> x.resultAt(0, 0, 0));
    }

    private static void counts() {
        PrefixCodeIndex x = sample();
        int[][] due = {
            // digits, value, results, codes
            {0, 0, 3, 5}, {1, 4, 3, 3}, {1, 0, 2, 2}, {1, 9, 0, 0}, {2, 42, 3, 2}, {2, 43, 1, 1},
            {2, 4, 1, 1}, {2, 0, 1, 1}, {3, 420, 2, 1}, {3, 421, 2, 1}, {3, 7, 1, 1}, {3, 999, 0, 0},
        };
        for (int[] row : due) {
            Check.answers(25, row[2], () -> x.resultCount(row[0], row[1]));
            Check.answers(26, row[2], () -> x.resultCountByScan(row[0], row[1]));
            Check.answers(29, row[3], () -> x.codesWith(row[0], row[1]));
        }
        Check.answers(33, 2, () -> x.entriesWith(420));
        Check.answers(33, 1, () -> x.entriesWith(42));
        Check.answers(33, 0, () -> x.entriesWith(0));
        Check.answers(33, 0, () -> x.entriesWith(999));
        Check.refuses(33, UNFIT, () -> x.entriesWith(1000));
        Check.refuses(33, UNFIT, () -> x.entriesWith(-1));
        x.removeCode(0, 420);
        Check.answers(25, 1, () -> x.resultCount(3, 420));
        Check.answers(29, 2, () -> x.codesWith(2, 42));
        x.removeCode(1, 420);
        Check.answers(25, 2, () -> x.resultCount(2, 42));
        Check.answers(29, 1, () -> x.codesWith(2, 42));
    }

    private static void noSuchPrefix() {
        PrefixCodeIndex x = sample();
        int[][] wrong = {
            {-1, 0}, {4, 0}, {4, 5000}, {0, 1}, {0, -1}, {1, 10}, {1, -1}, {2, 100}, {2, -1}, {3, 1000}, {3, -1},
            {Integer.MAX_VALUE, 0}, {Integer.MIN_VALUE, 0}, {3, Integer.MAX_VALUE}, {1, Integer.MIN_VALUE},
        };
        for (int[] row : wrong) {
            int digits = row[0];
            int value = row[1];
            Check.refuses(25, UNFIT, () -> x.resultCount(digits, value));
            Check.refuses(26, UNFIT, () -> x.resultCountByScan(digits, value));
            Check.refuses(27, UNFIT, () -> x.resultAt(digits, value, -1));
            Check.refuses(28, UNFIT, () -> x.scoreOf(0, digits, value));
            Check.refuses(28, MISSING, () -> x.scoreOf(4, digits, value));
            Check.refuses(29, UNFIT, () -> x.codesWith(digits, value));
            Check.refuses(30, UNFIT, () -> x.nextDigits(digits, value));
        }
    }

    private static void ranks() {
        PrefixCodeIndex x = sample();
        Check.answers(28, 40, () -> x.scoreOf(0, 2, 42));
        Check.answers(28, 45, () -> x.scoreOf(0, 0, 0));
        Check.answers(28, 55, () -> x.scoreOf(1, 2, 42));
        Check.answers(28, 30, () -> x.scoreOf(0, 3, 7));
        Check.answers(28, 90, () -> x.scoreOf(3, 0, 0));
        Check.answers(27, 1, () -> x.resultAt(1, 4, 0));
        Check.answers(27, 0, () -> x.resultAt(1, 4, 1));
        Check.answers(27, 2, () -> x.resultAt(1, 4, 2));
        Check.refuses(27, MISSING, () -> x.resultAt(1, 4, 3));
        Check.refuses(27, MISSING, () -> x.resultAt(1, 4, -1));
        Check.answers(27, 0, () -> x.resultAt(3, 421, 0));
        Check.answers(27, 2, () -> x.resultAt(3, 421, 1));
        Check.refuses(27, MISSING, () -> x.resultAt(3, 999, 0));
        x.pass(1);
        x.touch(2);
        Check.answers(27, 2, () -> x.resultAt(3, 421, 0));
        Check.answers(27, 0, () -> x.resultAt(3, 421, 1));
        Check.answers(28, 39, () -> x.scoreOf(0, 2, 42));
    }

    private static void negativeScores() {
        PrefixCodeIndex x = new PrefixCodeIndex();
        x.addEntry(1);
        x.addCode(0, 5);
        for (int i = 0; i < 30; i++) {
            x.search(0, 0);
        }
        x.pass(60);
        x.pass(60);
        x.pass(30);
        Check.answers(28, -135, () -> x.scoreOf(0, 3, 5));
        Check.answers(28, -140, () -> x.scoreOf(0, 3, 6));
        x.addEntry(9);
        x.addCode(1, 5);
        Check.answers(27, 1, () -> x.resultAt(3, 5, 0));
        Check.answers(27, 0, () -> x.resultAt(3, 5, 1));
    }

    private static void nextDigits() {
        PrefixCodeIndex x = sample();
        Check.answers(30, 2, () -> x.nextDigits(0, 0));
        Check.answers(30, 2, () -> x.nextDigits(1, 4));
        Check.answers(30, 2, () -> x.nextDigits(1, 0));
        Check.answers(30, 2, () -> x.nextDigits(2, 42));
        Check.answers(30, 1, () -> x.nextDigits(2, 43));
        Check.answers(30, 0, () -> x.nextDigits(1, 5));
        Check.refuses(30, UNFIT, () -> x.nextDigits(3, 420));
        for (int digit = 0; digit < 10; digit++) {
            x.addCode(digit < 6 ? 3 : x.addEntry(1), 500 + digit);
        }
        Check.answers(30, 10, () -> x.nextDigits(2, 50));
        Check.answers(30, 1, () -> x.nextDigits(1, 5));
        Check.answers(30, 3, () -> x.nextDigits(0, 0));
    }

    private static void sharedDigits() {
        PrefixCodeIndex x = sample();
        int[][] due = {{420, 3}, {423, 2}, {431, 2}, {450, 1}, {900, 0}, {7, 3}, {8, 2}, {99, 1}, {42, 3}, {999, 0}};
        for (int[] row : due) {
            Check.answers(31, row[1], () -> x.sharedDigits(row[0]));
            Check.answers(32, row[1], () -> x.sharedDigitsByScan(row[0]));
        }
        for (int code : new int[] {-1, 1000, Integer.MIN_VALUE, Integer.MAX_VALUE}) {
            Check.refuses(31, UNFIT, () -> x.sharedDigits(code));
            Check.refuses(32, UNFIT, () -> x.sharedDigitsByScan(code));
        }
    }

    private static void codeAfter() {
        PrefixCodeIndex x = sample();
        Check.answers(34, 7, () -> x.codeAfter(-1));
        Check.answers(34, 42, () -> x.codeAfter(7));
        Check.answers(34, 420, () -> x.codeAfter(42));
        Check.answers(34, 421, () -> x.codeAfter(420));
        Check.answers(34, 430, () -> x.codeAfter(421));
        Check.refuses(34, MISSING, () -> x.codeAfter(430));
        Check.refuses(34, MISSING, () -> x.codeAfter(999));
        Check.refuses(34, UNFIT, () -> x.codeAfter(1000));
        Check.refuses(34, UNFIT, () -> x.codeAfter(-2));
        x.addCode(3, 0);
        x.addCode(3, 999);
        Check.answers(34, 0, () -> x.codeAfter(-1));
        Check.answers(34, 999, () -> x.codeAfter(998));
        Check.refuses(34, MISSING, () -> x.codeAfter(999));
        x.removeEntry(3);
        Check.refuses(34, MISSING, () -> x.codeAfter(430));
        x.removeCode(0, 430);
        Check.refuses(34, MISSING, () -> x.codeAfter(421));
    }

    private static void commonest() {
        PrefixCodeIndex x = new PrefixCodeIndex();
        Check.refuses(35, MISSING, () -> x.commonestCode());
        x.addEntry(1);
        Check.refuses(35, MISSING, () -> x.commonestCode());
        x.addCode(0, 999);
        Check.answers(35, 999, () -> x.commonestCode());
        x.addCode(0, 500);
        Check.answers(35, 500, () -> x.commonestCode());
        x.addEntry(1);
        x.addCode(1, 999);
        Check.answers(35, 999, () -> x.commonestCode());
        x.addCode(1, 0);
        x.addCode(0, 0);
        Check.answers(35, 0, () -> x.commonestCode());
    }

    private static void similar() {
        PrefixCodeIndex x = sample();
        Check.answers(36, 1, () -> x.sharedCodes(0, 1));
        Check.answers(36, 1, () -> x.sharedCodes(2, 0));
        Check.answers(36, 0, () -> x.sharedCodes(1, 2));
        Check.answers(36, 3, () -> x.sharedCodes(0, 0));
        Check.answers(36, 0, () -> x.sharedCodes(3, 3));
        Check.refuses(36, MISSING, () -> x.sharedCodes(0, 4));
        Check.refuses(36, MISSING, () -> x.sharedCodes(4, 0));
        Check.refuses(36, MISSING, () -> x.sharedCodes(4, 4));
        Check.answers(37, 1, () -> x.mostSimilar(0));
        Check.answers(37, 0, () -> x.mostSimilar(1));
        Check.answers(37, 0, () -> x.mostSimilar(2));
        Check.answers(37, 0, () -> x.mostSimilar(3));
        Check.refuses(37, MISSING, () -> x.mostSimilar(4));
        x.addCode(2, 430);
        Check.answers(37, 2, () -> x.mostSimilar(0));
        Check.answers(36, 2, () -> x.sharedCodes(0, 2));
        x.removeCode(0, 430);
        Check.answers(36, 1, () -> x.sharedCodes(0, 2));
        Check.answers(36, 1, () -> x.sharedCodes(2, 0));
        x.removeEntry(0);
        Check.answers(37, 2, () -> x.mostSimilar(1));
        x.removeEntry(2);
        x.removeEntry(3);
        Check.refuses(37, MISSING, () -> x.mostSimilar(1));
    }

    /** The codes of an entry that has left by a removal, a day, a run, an undo or a restore are told by no call. */
    private static void nothingOfGoneEntries() {
        String[] ways = {"drop 1", "days 11", "uncode 1 123;uncode 1 5", "undo", "restore"};
        for (String way : ways) {
            PrefixCodeIndex x = new PrefixCodeIndex();
            x.addEntry(2);
            x.save();
            Check.run(x, "entry 1;code 1 123;code 1 5");
            Check.answers(25, 1, () -> x.resultCount(2, 12));
            Check.answers(29, 2, () -> x.codesWith(0, 0));
            leave(x, way);
            Check.answers(25, 0, () -> x.resultCount(0, 0));
            Check.answers(26, 0, () -> x.resultCountByScan(0, 0));
            Check.refuses(27, MISSING, () -> x.resultAt(0, 0, 0));
            Check.answers(29, 0, () -> x.codesWith(2, 12));
            Check.answers(30, 0, () -> x.nextDigits(1, 0));
            Check.answers(31, 0, () -> x.sharedDigits(123));
            Check.answers(32, 0, () -> x.sharedDigitsByScan(123));
            Check.answers(33, 0, () -> x.entriesWith(5));
            Check.refuses(34, MISSING, () -> x.codeAfter(-1));
            Check.refuses(35, MISSING, () -> x.commonestCode());
        }
    }

    private static void leave(PrefixCodeIndex x, String way) {
        if (way.equals("undo")) {
            x.undo();
        } else if (way.equals("restore")) {
            x.restore();
        } else {
            Check.run(x, way);
        }
    }

    private static void fullIndex() {
        PrefixCodeIndex x = new PrefixCodeIndex();
        for (int i = 0; i < 20; i++) {
            x.addEntry(9);
            x.addCode(i, 10 * i);
            x.addCode(i, 999);
        }
        Check.answers(25, 20, () -> x.resultCount(1, 9));
        Check.answers(26, 20, () -> x.resultCountByScan(1, 9));
        Check.answers(27, 19, () -> x.resultAt(1, 9, 19));
        Check.refuses(27, MISSING, () -> x.resultAt(1, 9, 20));
        Check.answers(29, 21, () -> x.codesWith(0, 0));
        Check.answers(30, 10, () -> x.nextDigits(1, 1));
        Check.answers(31, 2, () -> x.sharedDigits(198));
        Check.answers(32, 2, () -> x.sharedDigitsByScan(198));
        Check.answers(33, 20, () -> x.entriesWith(999));
        Check.answers(34, 999, () -> x.codeAfter(190));
        Check.answers(35, 999, () -> x.commonestCode());
        Check.answers(37, 0, () -> x.mostSimilar(19));
        Check.answers(10, 20, () -> x.search(0, 0));
        Check.answers(10, 1, () -> x.search(2, 19));
        Check.answers(10, 2, () -> x.hitsOf(19));
    }
}
