/** The boundary cases of promises 55 to 58: undo and the saved copy. */
final class UndoBoundaries extends Boundaries {
    private UndoBoundaries() {
    }

    @Sentence(in = "Promise 55", words = "Returns the number, 0 to 8.")
    static void undoableCount() {
        PrefixCodeIndex x = new PrefixCodeIndex();
        answers(0, () -> x.undoableCount());
        for (int changes = 1; changes <= 20; changes++) {
            x.addEntry(1);
            int due = Math.min(8, changes);
            answers(due, () -> x.undoableCount());
        }
        for (int left = 7; left >= 0; left--) {
            x.undo();
            int due = left;
            answers(due, () -> x.undoableCount());
        }
        refuses(REFUSED, () -> x.undo());
        answers(0, () -> x.undoableCount());
        x.pass(1);
        answers(1, () -> x.undoableCount());
        answers(1, () -> Check.run(x, "find"));
        answers(2, () -> x.undoableCount());
        x.save();
        answers(2, () -> x.undoableCount());
        x.restore();
        answers(0, () -> x.undoableCount());
    }

    @Sentence(in = "Promise 56", words = "Undoes the latest change that has not been undone.")
    static void undoLatest() {
        PrefixCodeIndex x = entryWith();
        x.pass(1);
        x.pass(2);
        x.undo();
        answers(1, () -> x.ageOf(0));
        x.pass(4);
        answers(5, () -> x.ageOf(0));
        x.undo();
        answers(1, () -> x.ageOf(0));
        x.undo();
        answers(0, () -> x.ageOf(0));
        x.undo();
        answers(0, () -> x.entryCount());
        refuses(REFUSED, () -> x.undo());
        roundTheRing();
    }

    /** Changes and undos in turns, far beyond eight of either; an undo among the latest eight leaves seven. */
    private static void roundTheRing() {
        PrefixCodeIndex x = entries(9);
        for (int round = 0; round < 10; round++) {
            for (int change = 1; change <= 11; change++) {
                x.pass(1);
                x.touch(0);
                x.undo();
            }
            answers(11 + 4 * round, () -> x.ageOf(0));
            for (int left = 6; left >= 0; left--) {
                int due = left;
                answers(due, () -> x.undo());
            }
            answers(4 + 4 * round, () -> x.ageOf(0));
            refuses(REFUSED, () -> x.undo());
        }
    }

    @Sentence(in = "Promise 56", words = "Returns the number of changes that can still be undone.")
    static void undoAnswers() {
        answers(0, () -> entries(1).undo());
        answers(7, () -> fullIndex().undo());
        PrefixCodeIndex x = entries(1, 1, 1, 1, 1, 1, 1, 1);
        for (int left = 7; left >= 0; left--) {
            int due = left;
            answers(due, () -> x.undo());
            answers(due, () -> x.entryCount());
        }
        PrefixCodeIndex y = entries(1, 1, 1, 1, 1, 1, 1, 1, 1);
        for (int left = 7; left >= 0; left--) {
            int due = left;
            answers(due, () -> y.undo());
            answers(due + 1, () -> y.entryCount());
        }
    }

    @Sentence(in = "Promise 56", words = "Throws `IllegalStateException` if no change can be undone")
    static void undoNone() {
        refuses(REFUSED, PrefixCodeIndex::new, x -> x.undo());
        refuses(REFUSED, UndoBoundaries::allUndone, x -> x.undo());
        refuses(REFUSED, UndoBoundaries::restored, x -> x.undo());
        refuses(REFUSED, () -> after(PrefixCodeIndex::new, x -> x.addEntry(0)), x -> x.undo());
        refuses(REFUSED, () -> after(PrefixCodeIndex::new, x -> Check.run(x, "find;")), x -> x.undo());
        refuses(REFUSED, () -> after(PrefixCodeIndex::new, x -> Check.run(x, "find;drop 0")), x -> x.undo());
        answers(0, () -> after(PrefixCodeIndex::new, x -> Check.run(x, "find;find")).undo());
        PrefixCodeIndex x = allUndone();
        x.search(0, 0);
        answers(0, () -> x.undo());
        refuses(REFUSED, () -> x.undo());
    }

    private static PrefixCodeIndex allUndone() {
        PrefixCodeIndex x = busy();
        for (int undo = 0; undo < 8; undo++) {
            x.undo();
        }
        return x;
    }

    private static PrefixCodeIndex restored() {
        PrefixCodeIndex x = busy();
        x.restore();
        return x;
    }

    @Sentence(in = "Promise 57", words = "Saves a copy of everything that changes can change, replacing an earlier copy.")
    static void saveReplaces() {
        PrefixCodeIndex x = busy();
        String first = View.index(x);
        answers(5, () -> x.save());
        x.undo();
        x.removeEntry(3);
        x.joinSegments(0);
        answers(false, () -> View.index(x).equals(first));
        answers(5, () -> x.restore());
        answers(first, () -> View.index(x));
        answers(8, () -> x.addEntry(1));
        x.pass(11);
        String second = View.index(x);
        answers(5, () -> x.save());
        x.pass(60);
        x.pass(60);
        answers(0, () -> x.entryCount());
        answers(5, () -> x.restore());
        answers(second, () -> View.index(x));
        answers(9, () -> x.addEntry(1));
    }

    @Sentence(in = "Promise 57", words = "Returns the number of entries.")
    static void saveAnswers() {
        answers(0, () -> new PrefixCodeIndex().save());
        answers(1, () -> entries(1).save());
        answers(20, () -> fullIndex().save());
        answers(5, () -> busy().save());
    }

    @Sentence(in = "Promise 58", words = "Returns the number of entries.")
    static void restoreAnswers() {
        PrefixCodeIndex x = new PrefixCodeIndex();
        x.save();
        x.addEntry(1);
        answers(0, () -> x.restore());
        answers(0, () -> x.entryCount());
        PrefixCodeIndex y = fullIndex();
        y.save();
        y.pass(60);
        y.pass(60);
        answers(0, () -> y.entryCount());
        answers(20, () -> y.restore());
        answers(20, () -> y.entryCount());
        refuses(REFUSED, () -> y.addEntry(1));
    }

    @Sentence(in = "Promise 58", words = "Restores the saved copy, which stays available.")
    static void restoreTwice() {
        PrefixCodeIndex x = entries(9, 1, 2, 3, 4);
        give(x, 0, 1, 2, 3, 4, 5, 6);
        x.save();
        String saved = View.index(x);
        for (int time = 0; time < 3; time++) {
            x.search(0, 0);
            x.merge(1, 2);
            x.pass(60);
            x.startSegment();
            x.removeEntry(0);
            answers(5, () -> x.restore());
            answers(saved, () -> View.index(x));
            x.removeCode(0, 1);
            x.touch(0);
        }
        answers(5, () -> x.restore());
        answers(5, () -> x.restore());
        answers(6, () -> x.codeCount(0));
    }

    @Sentence(in = "Promise 58", words = "No changes can be undone afterwards.")
    static void nothingToUndo() {
        PrefixCodeIndex x = fullIndex();
        x.save();
        answers(8, () -> x.undoableCount());
        x.restore();
        answers(0, () -> x.undoableCount());
        refuses(REFUSED, () -> x.undo());
        x.pass(1);
        answers(1, () -> x.undoableCount());
        answers(0, () -> x.undo());
        answers(0, () -> x.ageOf(0));
        refuses(REFUSED, () -> x.undo());
    }

    @Sentence(in = "Promise 58", words = "Throws `IllegalStateException` if there is no saved copy")
    static void restoreNone() {
        refuses(REFUSED, PrefixCodeIndex::new, x -> x.restore());
        refuses(REFUSED, Boundaries::fullIndex, x -> x.restore());
        refuses(REFUSED, Boundaries::corners, x -> x.restore());
        PrefixCodeIndex x = new PrefixCodeIndex();
        refuses(REFUSED, () -> x.restore());
        answers(0, () -> x.save());
        answers(0, () -> x.restore());
    }
}
