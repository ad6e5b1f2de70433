/** The boundary cases of promises 48 to 54: the line, the input buffer and programs. */
final class TextBoundaries extends Boundaries {
    private TextBoundaries() {
    }

    // Promises 48 to 50

    @Sentence(in = "Promise 48", words = "for each code in ascending order, \" \" and its three digits.")
    static void formatEntryCodes() {
        answers("e0 w5 a0 h0 s0", () -> Check.entry(entryWith(), 0));
        answers(14, () -> entryWith().formatEntry(0));
        answers("e0 w5 a0 h0 s0 000", () -> Check.entry(entryWith(0), 0));
        answers("e0 w5 a0 h0 s0 000 009 010 099 100 999", () -> Check.entry(entryWith(999, 100, 99, 10, 9, 0), 0));
        answers(38, () -> entryWith(999, 100, 99, 10, 9, 0).formatEntry(0));
        answers("e3 w9 a13 h0 s0 000 099 100 500 998 999", () -> Check.entry(busy(), 3));
    }

    @Sentence(in = "Promise 48", words = "An example is \"e3 w5 a12 h0 s1 007 420\".")
    static void formatEntryExample() {
        PrefixCodeIndex x = entries(1, 1, 1);
        x.startSegment();
        x.addEntry(5);
        give(x, 3, 420, 7);
        x.pass(12);
        answers("e3 w5 a12 h0 s1 007 420", () -> Check.entry(x, 3));
        answers(23, () -> x.formatEntry(3));
    }

    @Sentence(in = "Promise 48", words = "Formats an entry into the line, replacing the previous line")
    static void formatEntryReplaces() {
        PrefixCodeIndex x = entryWith(1, 2, 3, 4, 5, 6);
        x.addEntry(1);
        x.formatEntry(0);
        answers(14, () -> x.formatEntry(1));
        answers("e1 w1 a0 h0 s0", () -> View.line(x));
        answers(38, () -> x.formatEntry(0));
        x.removeEntry(0);
        answers("e0 w5 a0 h0 s0 001 002 003 004 005 006", () -> View.line(x));
    }

    @Sentence(in = "Promise 48", words = "Throws `NoSuchElementException` if no entry has this id")
    static void formatEntryMissing() {
        answers(30, () -> busy().formatEntry(0));
        answers(14, () -> busy().formatEntry(7));
        refusesMissing((x, id) -> x.formatEntry(id));
    }

    @Sentence(in = "Promise 49", words = "for each result in the order of scores its id, \"=\" and its score, with a comma "
            + "between two results.")
    static void formatResultsCommas() {
        answers("", () -> Check.results(new PrefixCodeIndex(), 0, 0));
        answers(0, () -> fullIndex().formatResults(0, 0));
        answers("0=55", () -> Check.results(entryWith(7), 0, 0));
        answers("4=55,2=40,1=30,0=20", () -> Check.results(corners(), 0, 0));
        PrefixCodeIndex x = fullIndex();
        for (int id = 0; id < 20; id++) {
            x.addCode(id, 7);
        }
        x.pass(10);
        answers("0=85,9=85,18=85,1=75,10=75,19=75,2=65,11=65,3=55,12=55,4=45,13=45,5=35,14=35,6=25,15=25,7=15,16=15,8=5,"
                + "17=5", () -> Check.results(x, 0, 0));
        answers("0=-3,1=-5", () -> Check.results(oldPair(), 3, 5));
        PrefixCodeIndex y = entries(1);
        y.addCode(0, 5);
        y.search(0, 0);
        y.pass(14);
        answers("0=1", () -> Check.results(y, 0, 0));
        y.pass(1);
        answers("0=0", () -> Check.results(y, 0, 0));
        y.search(0, 0);
        y.pass(16);
        answers("0=-1", () -> Check.results(y, 0, 0));
    }

    /** Two entries with scores just below 0. */
    private static PrefixCodeIndex oldPair() {
        PrefixCodeIndex x = entries(1, 1);
        give(x, 0, 5);
        give(x, 1, 5);
        x.search(0, 0);
        x.search(0, 0);
        x.pass(2);
        x.touch(0);
        x.pass(18);
        return x;
    }

    @Sentence(in = "Promise 49", words = "Formats the results for a prefix into the line, replacing the previous line")
    static void formatResultsReplaces() {
        PrefixCodeIndex x = corners();
        x.formatResults(0, 0);
        answers(4, () -> x.formatResults(3, 0));
        answers("0=15", () -> View.line(x));
        answers(0, () -> x.formatResults(3, 1));
        answers("", () -> View.line(x));
        answers(19, () -> x.formatResults(0, 0));
    }

    @Sentence(in = "Promise 49", words = "`digits`: the number of digits of the prefix, 0 to 3")
    static void formatResultsDigits() {
        answers("4=55,2=40,1=30,0=20", () -> Check.results(corners(), 0, 0));
        answers("1=30,0=15", () -> Check.results(corners(), 1, 0));
        answers("2=40,0=15", () -> Check.results(corners(), 1, 9));
        answers("1=25,0=15", () -> Check.results(corners(), 2, 0));
        answers("2=35,0=15", () -> Check.results(corners(), 2, 99));
        answers("0=15", () -> Check.results(corners(), 3, 0));
        answers("0=15", () -> Check.results(corners(), 3, 999));
        answers("", () -> Check.results(corners(), 3, 998));
    }

    @Sentence(in = "Promise 49", words = "Throws `IllegalArgumentException` if there is no such prefix")
    static void formatResultsNoPrefix() {
        refusesPrefixes((x, digits, value) -> x.formatResults(digits, value));
        refuses(UNFIT, PrefixCodeIndex::new, x -> x.formatResults(0, 1));
    }

    @Sentence(in = "Promise 50", words = "Returns a character of the line, which is empty at first.")
    static void lineEmptyAtFirst() {
        refuses(OUTSIDE, PrefixCodeIndex::new, x -> x.lineChar(0));
        refuses(OUTSIDE, Boundaries::fullIndex, x -> x.lineChar(0));
        PrefixCodeIndex x = corners();
        refuses(OUTSIDE, () -> x.lineChar(0));
        refuses(MISSING, () -> x.formatEntry(5));
        refuses(OUTSIDE, () -> x.lineChar(0));
        x.formatEntry(0);
        answers('e', () -> x.lineChar(0));
    }

    @Sentence(in = "Promise 50", words = "`index`: the index, starting at 0")
    static void lineFirst() {
        answers('e', () -> busy().lineChar(0));
        answers('1', () -> busy().lineChar(1));
        PrefixCodeIndex x = corners();
        x.formatResults(3, 0);
        answers('0', () -> x.lineChar(0));
    }

    @Sentence(in = "Promise 50", words = "Throws `IndexOutOfBoundsException` if the index is negative or not less than the "
            + "length of the line")
    static void lineOutside() {
        answers('0', () -> busy().lineChar(21));
        for (int index : new int[] {-1, 22, 23, LEAST, GREATEST}) {
            refuses(OUTSIDE, Boundaries::busy, x -> x.lineChar(index));
        }
        PrefixCodeIndex x = busy();
        x.formatEntry(7);
        answers('2', () -> x.lineChar(13));
        refuses(OUTSIDE, () -> x.lineChar(14));
        x.formatResults(3, 8);
        refuses(OUTSIDE, () -> x.lineChar(0));
    }

    // Promise 51

    @Sentence(in = "Promise 51", words = "Returns the number of characters in the buffer.")
    static void appendCounts() {
        PrefixCodeIndex x = new PrefixCodeIndex();
        for (int number = 1; number <= 60; number++) {
            int due = number;
            answers(due, () -> x.append('a'));
        }
        refuses(REFUSED, () -> x.append('a'));
        refuses(UNFIT, () -> x.run());
        answers(1, () -> x.append('a'));
    }

    @Sentence(in = "Promise 51", words = "Throws `IllegalArgumentException` if the character is not in the range from ' ' to "
            + "'~'")
    static void appendRange() {
        PrefixCodeIndex x = new PrefixCodeIndex();
        answers(1, () -> x.append(' '));
        answers(2, () -> x.append('~'));
        answers(3, () -> x.append('!'));
        answers(4, () -> x.append('}'));
        for (int sign : new int[] {' ' - 1, '~' + 1, 0, 9, 10, 128, 160, 255, 256 + 'a', 32767, 32768, 65535}) {
            refuses(UNFIT, Boundaries::busy, y -> y.append((char) sign));
            refuses(UNFIT, PrefixCodeIndex::new, y -> y.append((char) sign));
        }
        for (int sign = 0; sign < 300; sign++) {
            char character = (char) sign;
            boolean fits = sign >= 32 && sign <= 126;
            answers(fits ? "1" : "throws java.lang.IllegalArgumentException",
                    () -> Check.outcome(() -> new PrefixCodeIndex().append(character)));
        }
    }

    @Sentence(in = "Promise 51", words = "Throws `IllegalStateException` if the buffer contains 60 characters")
    static void appendWhenFull() {
        answers(60, () -> typed(new PrefixCodeIndex(), FINDS.substring(0, 59)).append(';'));
        refuses(REFUSED, () -> typed(new PrefixCodeIndex(), FINDS), x -> x.append('f'));
        refuses(REFUSED, () -> typed(busy(), FINDS.substring(3)), x -> x.append(' '));
        refuses(REFUSED, () -> typed(busy(), FINDS.substring(3)), x -> x.append('~'));
    }

    // Promise 52

    @Sentence(in = "Promise 52", words = "Either all commands are executed or none.")
    static void runAllOrNone() {
        PrefixCodeIndex x = resting(2, 1);
        answers(6, () -> Check.run(x, "entry 3;code 8 5;touch 3;drop 2;find 0;days 9"));
        answers("e8 w3 a9 h1 s2 005", () -> Check.entry(x, 8));
        answers("e3 w9 a9 h1 s0 000 099 100 500 998 999", () -> Check.entry(x, 3));
        answers(5, () -> x.entryCount());
        String[] commands = {
            "entry 3", "code 7 5", "uncode 0 7", "drop 1", "touch 3", "merge 7 1", "segment", "join 0", "find", "days 60",
        };
        for (String command : commands) {
            failing(1, command + ";drop 9");
            failing(1, command + ";entry 0");
            failing(2, command + ";find;uncode 7 7");
        }
        failing(6, "entry 1;code 8 1;merge 0 8;segment;join 2;days 60;drop 0");
        malformed(13, "entry 1;find;");
        malformed(14, "drop 0;segment x");
    }

    private static void failing(int due, String text) {
        refuses(REFUSED, () -> Check.run(resting(2, 1), text));
        same(() -> resting(2, due), () -> after(() -> resting(2, 1), x -> Check.run(x, text)));
    }

    private static void malformed(int due, String text) {
        refuses(UNFIT, () -> Check.run(resting(2, 1), text));
        same(() -> resting(due, 1), () -> after(() -> resting(2, 1), x -> Check.run(x, text)));
    }

    @Sentence(in = "Promise 52", words = "The buffer is empty afterwards, even if an exception is thrown.")
    static void runEmptiesBuffer() {
        String[] programs = {"", "find", "x", "drop 9", "find;drop 9", FINDS, FINDS.substring(0, 59)};
        for (String program : programs) {
            PrefixCodeIndex x = typed(new PrefixCodeIndex(), program);
            Check.outcome(() -> x.run());
            refuses(UNFIT, () -> x.run());
            answers(0, () -> x.errorPosition());
            answers(1, () -> x.append('f'));
            Check.type(x, "ind");
            answers(1, () -> x.run());
            for (int number = 1; number <= 60; number++) {
                int due = number;
                answers(due, () -> x.append(' '));
            }
            refuses(REFUSED, () -> x.append(' '));
        }
    }

    @Sentence(in = "Promise 52", words = "Returns the number of commands.")
    static void runCounts() {
        for (int commands = 1; commands <= 12; commands++) {
            PrefixCodeIndex x = typed(resting(2, 1), FINDS.substring(0, 5 * commands - 1));
            int due = commands;
            answers(due, () -> x.run());
            answers(due + 1, () -> x.hitsOf(0));
        }
        answers(7, () -> Check.run(new PrefixCodeIndex(), "entry 1;entry 2;entry 3;entry 4;entry 5;entry 6;segment"));
    }

    @Sentence(in = "Promise 52", words = "Throws `IllegalArgumentException` if the program is malformed; the error position "
            + "is stored")
    static void runMalformed() {
        malformed(0, "");
        malformed(0, "~");
        malformed(1, "f");
        malformed(4, "find1");
        malformed(5, "find;");
        malformed(59, FINDS.substring(0, 59) + ":");
        malformed(60, FINDS);
        malformed(8, "entry 0;");
        malformed(7, "drop 9;~");
    }

    @Sentence(in = "Promise 52", words = "Throws `IllegalStateException` if the method of a command throws an exception")
    static void runFails() {
        String[] failing = {
            "entry 0", "code 4 5", "code 0 7", "code 3 5", "uncode 4 7", "uncode 0 8", "drop 4", "touch 5", "merge 8 0",
            "merge 0 8", "merge 0 0", "merge 0 3", "join 3", "join 2", "days 0", "days 61", "days 999", "drop 999",
        };
        for (String command : failing) {
            failing(0, command);
        }
        refuses(REFUSED, () -> Check.run(fullIndex(), "entry 1"));
        refuses(REFUSED, () -> Check.run(segments(5), "segment"));
        refuses(REFUSED, () -> Check.run(segments(5), "join 5"));
        refuses(REFUSED, () -> Check.run(new PrefixCodeIndex(), "join 0"));
        answers(1, () -> Check.run(new PrefixCodeIndex(), "find 999"));
        answers(1, () -> Check.run(new PrefixCodeIndex(), "days 1"));
        answers(1, () -> Check.run(new PrefixCodeIndex(), "days 60"));
        answers(2, () -> Check.run(segments(4), "segment;join 3"));
    }

    @Sentence(in = "Promise 52", words = "the index of this command, starting at 0, is stored")
    static void runStoresIndex() {
        for (int index = 0; index <= 10; index++) {
            failing(index, FINDS.substring(0, 5 * index) + "drop 9");
        }
        failing(0, "drop 9;drop 8;drop 6");
        failing(1, "drop 7;drop 7;drop 7");
        PrefixCodeIndex x = typed(new PrefixCodeIndex(), FINDS.substring(0, 50) + "find;drop");
        refuses(UNFIT, () -> x.run());
        refuses(MISSING, () -> x.failedCommand());
    }

    // Promises 53 and 54

    @Sentence(in = "Promise 53", words = "Returns the error position of the latest malformed program.")
    static void latestErrorPosition() {
        PrefixCodeIndex x = new PrefixCodeIndex();
        refuses(UNFIT, () -> Check.run(x, FINDS));
        answers(60, () -> x.errorPosition());
        answers(60, () -> x.errorPosition());
        refuses(UNFIT, () -> x.run());
        answers(0, () -> x.errorPosition());
        refuses(UNFIT, () -> Check.run(x, "find "));
        answers(5, () -> x.errorPosition());
        answers(1, () -> Check.run(x, "find"));
        answers(5, () -> x.errorPosition());
        refuses(REFUSED, () -> Check.run(x, "find;drop 0"));
        answers(5, () -> x.errorPosition());
        x.save();
        x.restore();
        answers(5, () -> x.errorPosition());
    }

    @Sentence(in = "Promise 53", words = "Throws `NoSuchElementException` if no program was malformed so far")
    static void noErrorPosition() {
        refuses(MISSING, PrefixCodeIndex::new, x -> x.errorPosition());
        PrefixCodeIndex x = new PrefixCodeIndex();
        answers(1, () -> Check.run(x, "find"));
        refuses(MISSING, () -> x.errorPosition());
        refuses(REFUSED, () -> Check.run(x, "drop 0"));
        refuses(MISSING, () -> x.errorPosition());
        Check.type(x, "~");
        refuses(MISSING, () -> x.errorPosition());
        refuses(UNFIT, () -> x.run());
        answers(0, () -> x.errorPosition());
    }

    @Sentence(in = "Promise 54", words = "Returns the index of the latest command that failed.")
    static void latestFailedCommand() {
        PrefixCodeIndex x = new PrefixCodeIndex();
        refuses(REFUSED, () -> Check.run(x, "find;find;find;drop 0"));
        answers(3, () -> x.failedCommand());
        answers(3, () -> x.failedCommand());
        refuses(REFUSED, () -> Check.run(x, "drop 0"));
        answers(0, () -> x.failedCommand());
        refuses(REFUSED, () -> Check.run(x, FINDS.substring(0, 50) + "drop 0"));
        answers(10, () -> x.failedCommand());
        answers(1, () -> Check.run(x, "find"));
        refuses(UNFIT, () -> Check.run(x, "drop 0;"));
        refuses(MISSING, () -> x.removeEntry(0));
        answers(10, () -> x.failedCommand());
        x.save();
        x.restore();
        answers(10, () -> x.failedCommand());
    }

    @Sentence(in = "Promise 54", words = "Throws `NoSuchElementException` if no command failed so far")
    static void noFailedCommand() {
        refuses(MISSING, PrefixCodeIndex::new, x -> x.failedCommand());
        PrefixCodeIndex x = new PrefixCodeIndex();
        answers(1, () -> Check.run(x, "find"));
        refuses(UNFIT, () -> Check.run(x, "drop 0 "));
        refuses(MISSING, () -> x.removeEntry(0));
        refuses(MISSING, () -> x.failedCommand());
        refuses(REFUSED, () -> Check.run(x, "drop 0"));
        answers(0, () -> x.failedCommand());
    }
}
