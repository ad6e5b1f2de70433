/** The boundary cases of "What it is" and of the terms but for commands. */
final class TermBoundaries extends Boundaries {
    private TermBoundaries() {
    }

    @Sentence(in = "What it is", words = "An object is used for at most 512 calls after it has been made")
    static void calls512() {
        PrefixCodeIndex x = new PrefixCodeIndex();
        for (int id = 0; id < 255; id++) {
            x.addEntry(1);
            x.removeEntry(id);
        }
        answers(255, () -> x.addEntry(9));
        answers(1, () -> x.entryCount());
        PrefixCodeIndex y = entryWith(7);
        searchAll(y, 508);
        answers(508, () -> y.hitsOf(0));
        answers(150, () -> y.lifetimeOf(0));
        PrefixCodeIndex z = entryWith();
        for (int run = 0; run < 8; run++) {
            answers(12, () -> Check.run(z, "find;find;find;find;find;find;find;find;find;find;find;find"));
        }
        for (int call = 482; call < 512; call++) {
            z.pass(1);
        }
        answers(30, () -> z.ageOf(0));
    }

    @Sentence(in = "Terms", words = "At most 20 entries are in the index.")
    static void atMost20() {
        PrefixCodeIndex x = fullIndex();
        answers(20, () -> x.entryCount());
        refuses(REFUSED, () -> x.addEntry(1));
        x.removeEntry(7);
        answers(20, () -> x.addEntry(1));
        refuses(REFUSED, () -> x.addEntry(1));
        x.merge(20, 0);
        answers(21, () -> x.addEntry(1));
        refuses(REFUSED, () -> x.addEntry(1));
        answers(3, () -> x.pass(11));
        answers(17, () -> x.entryCount());
        answers(3, () -> Check.run(x, "entry 1;entry 1;entry 1"));
        answers(20, () -> x.entryCount());
        refuses(REFUSED, () -> Check.run(x, "entry 1"));
        answers(0, () -> x.failedCommand());
        PrefixCodeIndex y = fullIndex();
        y.removeEntry(0);
        y.undo();
        refuses(REFUSED, () -> y.addEntry(1));
        y.undo();
        answers(19, () -> y.addEntry(1));
    }

    @Sentence(in = "Terms", words = "the first entry has id 0, and each further entry has the id of the entry added before "
            + "it plus 1.")
    static void ids() {
        PrefixCodeIndex x = new PrefixCodeIndex();
        answers(0, () -> x.addEntry(1));
        answers(1, () -> x.addEntry(1));
        x.removeEntry(1);
        answers(2, () -> x.addEntry(1));
        x.merge(2, 0);
        answers(3, () -> x.addEntry(1));
        x.pass(11);
        answers(0, () -> x.entryCount());
        answers(4, () -> x.addEntry(1));
        refuses(UNFIT, () -> x.addEntry(0));
        refuses(REFUSED, () -> Check.run(x, "entry 1;drop 9"));
        answers(5, () -> x.addEntry(1));
        x.startSegment();
        answers(6, () -> x.addEntry(1));
    }

    @Sentence(in = "Terms", words = "Undo and restore also take back the next free id.")
    static void idsTakenBack() {
        PrefixCodeIndex x = entries(1, 2);
        x.save();
        x.undo();
        answers(1, () -> x.addEntry(3));
        x.addEntry(4);
        x.removeEntry(2);
        x.undo();
        answers(3, () -> x.addEntry(5));
        x.undo();
        x.undo();
        answers(2, () -> x.addEntry(6));
        x.restore();
        answers(2, () -> x.addEntry(7));
        answers("e1 w2 a0 h0 s0", () -> Check.entry(x, 1));
        PrefixCodeIndex y = new PrefixCodeIndex();
        y.save();
        y.addEntry(1);
        y.undo();
        answers(0, () -> y.addEntry(1));
        y.restore();
        answers(0, () -> y.addEntry(1));
    }

    @Sentence(in = "Terms", words = "An entry has a weight from 1 to 9, an age in days, initially 0, a number of hits, "
            + "initially 0, a segment, and 0 to 6 different codes.")
    static void initialEntry() {
        PrefixCodeIndex x = new PrefixCodeIndex();
        refuses(UNFIT, () -> x.addEntry(0));
        refuses(UNFIT, () -> x.addEntry(10));
        x.addEntry(1);
        answers("e0 w1 a0 h0 s0", () -> Check.entry(x, 0));
        x.addEntry(9);
        answers("e1 w9 a0 h0 s0", () -> Check.entry(x, 1));
        give(x, 1, 1, 2, 3, 4, 5);
        answers(6, () -> x.addCode(1, 6));
        refuses(REFUSED, () -> x.addCode(1, 7));
        x.search(0, 0);
        x.pass(3);
        x.removeEntry(1);
        x.addEntry(4);
        answers("e2 w4 a0 h0 s0", () -> Check.entry(x, 2));
        x.addCode(2, 5);
        refuses(REFUSED, () -> x.addCode(2, 5));
        answers(0, () -> x.removeCode(2, 5));
    }

    @Sentence(in = "Terms", words = "A code is a number from 0 to 999, which stands for its three digits with leading "
            + "zeros.")
    static void codes() {
        PrefixCodeIndex x = entryWith(0, 7, 70, 999);
        refuses(UNFIT, () -> x.addCode(0, -1));
        refuses(UNFIT, () -> x.addCode(0, 1000));
        answers("e0 w5 a0 h0 s0 000 007 070 999", () -> Check.entry(x, 0));
        answers(3, () -> x.codesWith(1, 0));
        answers(2, () -> x.codesWith(2, 0));
        answers(1, () -> x.codesWith(2, 7));
        answers(0, () -> x.codesWith(1, 7));
        answers(2, () -> x.sharedDigits(9));
        answers(1, () -> x.sharedDigits(99));
    }

    @Sentence(in = "Terms", words = "A prefix consists of 0 to 3 digits; it is given by its number of digits and by its "
            + "value, which is a number with at most this many digits.")
    static void prefixes() {
        PrefixCodeIndex x = corners();
        int[][] prefixes = {
            // digits, value, results
            {0, 0, 4}, {1, 0, 2}, {1, 9, 2}, {2, 0, 2}, {2, 9, 1}, {2, 10, 0}, {2, 99, 2}, {3, 0, 1}, {3, 9, 1},
            {3, 99, 0}, {3, 100, 0}, {3, 999, 1},
        };
        for (int[] prefix : prefixes) {
            answers(prefix[2], () -> x.resultCount(prefix[0], prefix[1]));
            answers(prefix[2], () -> x.resultCountByScan(prefix[0], prefix[1]));
        }
        int[][] none = {{-1, 0}, {4, 0}, {0, 1}, {1, 10}, {2, 100}, {3, 1000}, {0, -1}, {1, -1}, {2, -1}, {3, -1}};
        for (int[] prefix : none) {
            refuses(UNFIT, () -> x.resultCount(prefix[0], prefix[1]));
            refuses(UNFIT, () -> x.resultCountByScan(prefix[0], prefix[1]));
        }
    }

    @Sentence(in = "Terms", words = "A code has a prefix if it begins with its digits.")
    static void beginsWithDigits() {
        PrefixCodeIndex x = entryWith(142, 420, 42);
        answers(3, () -> x.codesWith(0, 0));
        answers(1, () -> x.codesWith(1, 4));
        answers(0, () -> x.codesWith(1, 2));
        answers(1, () -> x.codesWith(2, 42));
        answers(1, () -> x.codesWith(2, 4));
        answers(0, () -> x.codesWith(2, 20));
        answers(1, () -> x.codesWith(3, 42));
        answers(0, () -> x.codesWith(3, 4));
        answers(false, () -> entryWith(142).matches(0, 2, 42));
        answers(0, () -> entryWith(142).resultCountByScan(2, 42));
        answers(1, () -> entryWith(420).resultCountByScan(2, 42));
    }

    @Sentence(in = "Terms", words = "so every code has the prefix without digits, but an entry without codes matches no "
            + "prefix.")
    static void noDigitsAndNoCodes() {
        PrefixCodeIndex x = entries(1, 1, 1);
        x.addCode(0, 0);
        x.addCode(1, 999);
        answers(true, () -> x.matches(0, 0, 0));
        answers(true, () -> x.matches(1, 0, 0));
        answers(false, () -> x.matches(2, 0, 0));
        answers(false, () -> x.matches(2, 3, 0));
        answers(2, () -> x.resultCount(0, 0));
        answers(2, () -> x.resultCountByScan(0, 0));
        answers(2, () -> x.search(0, 0));
        answers(0, () -> x.hitsOf(2));
        answers(2, () -> x.codesWith(0, 0));
        x.removeCode(1, 999);
        answers(false, () -> x.matches(1, 0, 0));
        answers("0=15", () -> Check.results(x, 0, 0));
    }

    @Sentence(in = "Terms", words = "The score of an entry for a prefix is 10 times its weight, plus 5 times the number "
            + "of its codes with this prefix, minus its age.")
    static void scores() {
        PrefixCodeIndex x = entries(9, 9, 1);
        give(x, 0, 100, 101, 102, 103, 104, 105);
        answers(120, () -> x.scoreOf(0, 0, 0));
        answers(120, () -> x.scoreOf(0, 2, 10));
        answers(95, () -> x.scoreOf(0, 3, 100));
        answers(90, () -> x.scoreOf(0, 2, 11));
        answers(90, () -> x.scoreOf(1, 0, 0));
        answers(10, () -> x.scoreOf(2, 0, 0));
        x.pass(10);
        answers(110, () -> x.scoreOf(0, 0, 0));
        answers(0, () -> x.scoreOf(2, 0, 0));
    }

    @Sentence(in = "Terms", words = "The results for a prefix are all entries that match it, in the order of scores: "
            + "greater score first, then lower id.")
    static void ties() {
        PrefixCodeIndex x = entries(1, 2, 1, 2, 3);
        x.addCode(0, 500);
        x.addCode(1, 501);
        give(x, 2, 500, 510, 520);
        x.addCode(3, 502);
        answers("1=25,2=25,3=25,0=15", () -> Check.results(x, 1, 5));
        answers("0=15,2=15", () -> Check.results(x, 3, 500));
        x.pass(1);
        x.touch(3);
        answers("3=25,1=24,2=24,0=14", () -> Check.results(x, 1, 5));
    }

    @Sentence(in = "Terms", words = "In a search, the age of each result becomes 0, and its hits increase by 1.")
    static void searchedOnce() {
        PrefixCodeIndex x = entries(2, 2, 2);
        give(x, 0, 420, 421, 422);
        x.addCode(1, 430);
        x.pass(20);
        answers(1, () -> x.search(2, 42));
        answers("e0 w2 a0 h1 s0 420 421 422", () -> Check.entry(x, 0));
        answers("e1 w2 a20 h0 s0 430", () -> Check.entry(x, 1));
        answers("e2 w2 a20 h0 s0", () -> Check.entry(x, 2));
        answers(1, () -> x.search(2, 42));
        answers("e0 w2 a0 h2 s0 420 421 422", () -> Check.entry(x, 0));
    }

    @Sentence(in = "Terms", words = "There are 1 to 5 segments, numbered from 0.")
    static void segmentNumbers() {
        PrefixCodeIndex x = new PrefixCodeIndex();
        answers(1, () -> x.segmentCount());
        answers(0, () -> x.entriesIn(0));
        refuses(REFUSED, () -> x.joinSegments(0));
        for (int segment = 1; segment < 5; segment++) {
            int number = segment;
            answers(number, () -> x.startSegment());
        }
        refuses(REFUSED, () -> x.startSegment());
        answers(5, () -> x.segmentCount());
        answers(0, () -> x.entriesIn(4));
        refuses(OUTSIDE, () -> x.entriesIn(5));
        answers(4, () -> x.joinSegments(0));
        answers(4, () -> x.startSegment());
        refuses(REFUSED, () -> x.startSegment());
    }

    @Sentence(in = "Terms", words = "The last segment is the present one; a new entry belongs to it.")
    static void presentSegment() {
        PrefixCodeIndex x = segments(5);
        for (int id = 0; id < 5; id++) {
            int due = id;
            answers(due, () -> x.segmentOf(due));
        }
        x.addEntry(1);
        answers(4, () -> x.segmentOf(5));
        x.joinSegments(3);
        x.addEntry(1);
        answers(3, () -> x.segmentOf(6));
        x.joinSegments(0);
        x.addEntry(1);
        answers(2, () -> x.segmentOf(7));
        x.undo();
        x.undo();
        x.addEntry(1);
        answers(3, () -> x.segmentOf(7));
    }

    @Sentence(in = "Terms", words = "When a segment is joined with the next one, all entries of the next one belong to the "
            + "segment, and the numbers of the later segments decrease by 1.")
    static void joined() {
        int[][] due = {{0, 0, 1, 2, 3}, {0, 1, 1, 2, 3}, {0, 1, 2, 2, 3}, {0, 1, 2, 3, 3}};
        for (int segment = 0; segment < 4; segment++) {
            PrefixCodeIndex x = segments(5);
            x.joinSegments(segment);
            for (int id = 0; id < 5; id++) {
                int entry = id;
                answers(due[segment][entry], () -> x.segmentOf(entry));
            }
            int number = segment;
            answers(2, () -> x.entriesIn(number));
            answers(4, () -> x.segmentCount());
        }
        PrefixCodeIndex y = new PrefixCodeIndex();
        y.startSegment();
        y.addEntry(1);
        answers(1, () -> y.joinSegments(0));
        answers(1, () -> y.entriesIn(0));
        PrefixCodeIndex full = fullIndex();
        full.removeEntry(0);
        full.startSegment();
        full.addEntry(1);
        answers(1, () -> full.joinSegments(0));
        answers(20, () -> full.entriesIn(0));
    }

    @Sentence(in = "Terms", words = "When an entry is merged into another one, the codes of the first one are added to "
            + "those of the other one, the weight of the other one becomes the greater one of both weights, its age becomes "
            + "the lower one of both ages, and the hits are added up; the first entry leaves the index.")
    static void merged() {
        PrefixCodeIndex x = entries(9, 3, 3);
        give(x, 0, 5, 6);
        give(x, 1, 6, 7);
        x.pass(4);
        x.search(3, 7);
        x.search(2, 0);
        x.startSegment();
        x.addEntry(3);
        answers(3, () -> x.merge(0, 1));
        answers("e1 w9 a0 h3 s0 005 006 007", () -> Check.entry(x, 1));
        refuses(MISSING, () -> x.weightOf(0));
        x.pass(2);
        answers(0, () -> x.merge(3, 2));
        answers("e2 w3 a2 h0 s0", () -> Check.entry(x, 2));
        answers(3, () -> x.merge(1, 2));
        answers("e2 w9 a2 h3 s0 005 006 007", () -> Check.entry(x, 2));
        x.addEntry(1);
        x.pass(1);
        answers(3, () -> x.merge(2, 4));
        answers("e4 w9 a1 h3 s1 005 006 007", () -> Check.entry(x, 4));
        answers(1, () -> x.entryCount());
    }

    @Sentence(in = "Terms", words = "When a day passes, the ages of all entries increase by 1.")
    static void oneDay() {
        PrefixCodeIndex x = fullIndex();
        answers(0, () -> x.pass(1));
        answers(20, () -> x.entryCount());
        for (int id = 0; id < 20; id++) {
            int entry = id;
            answers(1, () -> x.ageOf(entry));
        }
    }

    @Sentence(in = "Terms", words = "After that, every entry fades whose age is greater than its lifetime: it leaves the "
            + "index.")
    static void fadesAfterLifetime() {
        PrefixCodeIndex x = entries(1, 1, 2, 1, 1);
        x.addCode(0, 5);
        answers(0, () -> x.pass(10));
        answers(5, () -> x.entryCount());
        answers(10, () -> x.ageOf(0));
        answers(4, () -> x.pass(1));
        answers(1, () -> x.entryCount());
        answers(2, () -> x.idAt(0));
        answers(11, () -> x.ageOf(2));
        answers(0, () -> x.resultCount(0, 0));
        refuses(MISSING, () -> x.ageOf(0));
        refuses(MISSING, () -> x.ageOf(4));
        answers(0, () -> x.pass(9));
        answers(1, () -> x.pass(1));
        answers(0, () -> x.entryCount());
    }

    @Sentence(in = "Terms", words = "The lifetime of an entry is 10 days times its weight, plus 5 days times its hits, but "
            + "at most 150 days.")
    static void lifetimes() {
        PrefixCodeIndex x = entries(1, 9);
        x.addCode(0, 1);
        x.addCode(1, 2);
        answers(10, () -> x.lifetimeOf(0));
        answers(90, () -> x.lifetimeOf(1));
        searchAll(x, 11);
        answers(65, () -> x.lifetimeOf(0));
        answers(145, () -> x.lifetimeOf(1));
        x.search(3, 2);
        answers(150, () -> x.lifetimeOf(1));
        x.search(3, 2);
        answers(150, () -> x.lifetimeOf(1));
        passAll(x, 66);
        answers(1, () -> x.entryCount());
        passAll(x, 84);
        answers(150, () -> x.ageOf(1));
        answers(1, () -> x.pass(1));
    }

    @Sentence(in = "Terms", words = "The calls of the methods to which commands correspond, and of run, that return "
            + "normally are changes, even if they have no effect.")
    static void whatIsAChange() {
        PrefixCodeIndex x = new PrefixCodeIndex();
        answers(0, () -> x.search(0, 0));
        answers(1, () -> x.undoableCount());
        answers(0, () -> x.pass(60));
        answers(2, () -> x.undoableCount());
        answers(1, () -> Check.run(x, "find"));
        answers(3, () -> x.undoableCount());
        x.addEntry(1);
        x.touch(0);
        answers(5, () -> x.undoableCount());
        answers(4, () -> x.undo());
        answers(1, () -> x.entryCount());
        answers(3, () -> x.undo());
        answers(0, () -> x.entryCount());
        everyChangeCounts();
        nothingElseCounts();
    }

    private static void everyChangeCounts() {
        Use[] changes = {
            x -> x.addEntry(1), x -> x.addCode(0, 9), x -> x.removeCode(0, 7), x -> x.removeEntry(0), x -> x.touch(0),
            x -> x.merge(0, 1), x -> x.startSegment(), x -> x.joinSegments(0), x -> x.search(0, 0), x -> x.pass(1),
        };
        for (Use change : changes) {
            PrefixCodeIndex x = entryWith(7);
            x.addEntry(1);
            x.startSegment();
            String before = View.index(x);
            change.of(x);
            answers(5, () -> x.undoableCount());
            answers(4, () -> x.undo());
            answers(before, () -> View.index(x));
        }
    }

    private static void nothingElseCounts() {
        PrefixCodeIndex x = entryWith(7);
        refuses(UNFIT, () -> x.run());
        refuses(REFUSED, () -> Check.run(x, "find;drop 1"));
        refuses(REFUSED, () -> x.addCode(0, 7));
        Check.type(x, "find");
        x.save();
        x.formatEntry(0);
        x.isConsistent();
        x.daysUntilFadedByDays(0);
        View.whole(x);
        answers(2, () -> x.undoableCount());
    }

    @Sentence(in = "Terms", words = "Up to 8 changes can be undone, the latest change first.")
    static void eightChanges() {
        for (int changes = 7; changes <= 30; changes++) {
            PrefixCodeIndex x = entryWith();
            for (int day = 1; day < changes; day++) {
                x.pass(1);
            }
            int most = Math.min(8, changes);
            answers(most, () -> x.undoableCount());
            for (int left = most - 1; left >= 0; left--) {
                int due = left;
                answers(due, () -> x.undo());
                int age = changes - 1 - (most - left);
                answers(age < 0 ? "throws java.util.NoSuchElementException" : age, () -> Check.outcome(() -> x.ageOf(0)));
            }
            refuses(REFUSED, () -> x.undo());
        }
    }

    @Sentence(in = "Terms", words = "Undo does not affect the input buffer, the error position, the index of the failed "
            + "command, the formatted line, or the saved copy.")
    static void untouchedByUndo() {
        PrefixCodeIndex x = entryWith(7);
        x.save();
        x.pass(2);
        refuses(UNFIT, () -> Check.run(x, "find "));
        refuses(REFUSED, () -> Check.run(x, "find;find;drop 5"));
        x.addEntry(3);
        x.formatEntry(1);
        Check.type(x, "fi");
        for (int undos = 0; undos < 4; undos++) {
            x.undo();
            answers(5, () -> x.errorPosition());
            answers(2, () -> x.failedCommand());
            answers("e1 w3 a0 h0 s0", () -> View.line(x));
        }
        answers(0, () -> x.entryCount());
        answers(3, () -> x.append('n'));
        answers(1, () -> x.restore());
        answers("e0 w5 a0 h0 s0 007", () -> Check.entry(x, 0));
        answers(4, () -> x.append('d'));
        x.touch(0);
        x.undo();
        answers(1, () -> x.run());
        x.undo();
        answers(1, () -> x.append('f'));
        answers(1, () -> x.restore());
    }

    @Sentence(in = "Terms", words = "A method that throws an exception leaves the index unchanged, unless its description "
            + "says otherwise.")
    static void refusedLeavesIndex() {
        Use[] calls = {
            x -> x.addEntry(0), x -> x.addCode(0, 7), x -> x.addCode(3, 1), x -> x.removeCode(0, 6),
            x -> x.removeEntry(4), x -> x.touch(5), x -> x.merge(0, 8), x -> x.merge(8, 0), x -> x.merge(0, 0),
            x -> x.merge(0, 3), x -> x.joinSegments(3), x -> x.joinSegments(2), x -> x.search(1, 10), x -> x.pass(61),
            x -> x.idAt(5), x -> x.weightOf(4), x -> x.ageOf(4), x -> x.hitsOf(4), x -> x.lifetimeOf(4),
            x -> x.segmentOf(4), x -> x.codeCount(4), x -> x.codeAt(0, 4), x -> x.hasCode(0, 1000),
            x -> x.matches(0, 0, 1), x -> x.entriesIn(3), x -> x.resultCount(0, 1), x -> x.resultCountByScan(0, 1),
            x -> x.resultAt(0, 0, 4), x -> x.scoreOf(4, 0, 0), x -> x.codesWith(0, 1), x -> x.nextDigits(3, 0),
            x -> x.sharedDigits(1000), x -> x.sharedDigitsByScan(1000), x -> x.entriesWith(1000), x -> x.codeAfter(999),
            x -> x.sharedCodes(0, 4), x -> x.mostSimilar(4), x -> x.daysUntilFaded(4), x -> x.daysUntilFadedByDays(4),
            x -> x.fadingWithin(61), x -> x.formatEntry(4), x -> x.formatResults(0, 1), x -> x.lineChar(99),
            x -> x.append('\n'),
        };
        for (Use call : calls) {
            answers(true, () -> Check.outcome(() -> call.of(busy())).startsWith("throws java."));
            same(Boundaries::busy, () -> after(Boundaries::busy, call));
        }
        answers(View.index(resting(2, 1)), () -> View.index(after(Boundaries::busy, x -> x.run())));
        answers(View.index(resting(2, 1)), () -> View.index(after(Boundaries::busy, x -> Check.run(x, "d;drop 9"))));
    }

    @Sentence(in = "Terms", words = "If several conditions of a method apply, the exception that is listed first is "
            + "thrown.")
    static void listedFirst() {
        refuses(UNFIT, Boundaries::fullIndex, x -> x.addEntry(0));
        refuses(UNFIT, Boundaries::fullIndex, x -> x.addEntry(10));
        refuses(MISSING, Boundaries::busy, x -> x.addCode(4, 1000));
        refuses(UNFIT, Boundaries::busy, x -> x.addCode(3, 1000));
        refuses(UNFIT, Boundaries::busy, x -> x.addCode(3, -1));
        refuses(MISSING, Boundaries::busy, x -> x.removeCode(4, -1));
        refuses(UNFIT, Boundaries::busy, x -> x.removeCode(7, 1000));
        refuses(MISSING, Boundaries::busy, x -> x.merge(4, 4));
        refuses(UNFIT, Boundaries::busy, x -> x.merge(3, 3));
        refuses(MISSING, Boundaries::busy, x -> x.codeAt(4, -1));
        refuses(MISSING, Boundaries::busy, x -> x.hasCode(4, 1000));
        refuses(MISSING, Boundaries::busy, x -> x.matches(4, 0, 1));
        refuses(UNFIT, Boundaries::busy, x -> x.resultAt(0, 1, 99));
        refuses(UNFIT, Boundaries::busy, x -> x.resultAt(4, 0, -1));
        refuses(MISSING, Boundaries::busy, x -> x.scoreOf(4, 4, 0));
        refuses(UNFIT, Boundaries::busy, x -> x.codeAfter(1000));
        refuses(UNFIT, PrefixCodeIndex::new, x -> x.codeAfter(-2));
        refuses(UNFIT, () -> typed(new PrefixCodeIndex(), FINDS), x -> x.append((char) 127));
        PrefixCodeIndex x = new PrefixCodeIndex();
        refuses(UNFIT, () -> Check.run(x, "drop 0;find "));
        refuses(MISSING, () -> x.failedCommand());
        answers(12, () -> x.errorPosition());
    }
}
