import java.util.NoSuchElementException;

/** Promises 51 to 54: the input buffer and its programs. */
public final class ProgramTest {
    private static final Class<NoSuchElementException> MISSING = NoSuchElementException.class;
    private static final Class<IllegalArgumentException> UNFIT = IllegalArgumentException.class;
    private static final Class<IllegalStateException> REFUSED = IllegalStateException.class;

    public static void main(String[] args) {
        append();
        everyCommand();
        find();
        malformed();
        fullBuffer();
        failing();
        everyFailure();
        storedPositions();
        Check.finish();
    }

    private static void append() {
        PrefixCodeIndex x = new PrefixCodeIndex();
        Check.refuses(51, UNFIT, () -> x.append((char) 31));
        Check.refuses(51, UNFIT, () -> x.append((char) 127));
        Check.refuses(51, UNFIT, () -> x.append((char) 0));
        Check.refuses(51, UNFIT, () -> x.append((char) 65535));
        Check.answers(51, 1, () -> x.append(' '));
        for (int i = 2; i <= 60; i++) {
            int due = i;
            Check.answers(51, due, () -> x.append('~'));
        }
        Check.refuses(51, REFUSED, () -> x.append('a'));
        Check.refuses(51, UNFIT, () -> x.append((char) 10));
        Check.refuses(52, UNFIT, () -> x.run());
        Check.answers(52, 1, () -> x.append('a'));
        Check.answers(51, 0, () -> x.undoableCount());
    }

    private static void everyCommand() {
        PrefixCodeIndex x = new PrefixCodeIndex();
        Check.answers(52, 5, () -> Check.run(x, "entry 1;entry 9;segment;entry 5;code 0 7"));
        Check.answers(52, 1, () -> x.entriesWith(7));
        Check.answers(52, 5, () -> Check.run(x, "code 1 070;code 1 7;code 2 999;uncode 1 70;days 5"));
        Check.answers(52, 2, () -> x.entriesWith(7));
        Check.answers(52, "e0 w1 a5 h0 s0 007", () -> Check.entry(x, 0));
        Check.answers(52, "e1 w9 a5 h0 s0 007", () -> Check.entry(x, 1));
        Check.answers(52, "e2 w5 a5 h0 s1 999", () -> Check.entry(x, 2));
        Check.answers(52, 2, () -> Check.run(x, "touch 002;merge 0 1"));
        Check.answers(52, 0, () -> x.ageOf(2));
        Check.answers(52, 1, () -> x.mergedTotal());
        Check.answers(52, 5, () -> x.ageOf(1));
        Check.answers(52, 2, () -> Check.run(x, "join 0;drop 1"));
        Check.answers(52, 1, () -> x.segmentCount());
        Check.answers(52, 1, () -> x.removedTotal());
        Check.answers(52, 1, () -> Check.run(x, "days 060"));
        Check.answers(52, 0, () -> x.entryCount());
        Check.answers(52, 5, () -> x.undoableCount());
    }

    private static void find() {
        PrefixCodeIndex x = new PrefixCodeIndex();
        Check.run(x, "entry 1;entry 1;code 0 7;code 1 70");
        Check.answers(52, 1, () -> Check.run(x, "find 007"));
        Check.answers(52, 10, () -> 10 * x.hitsOf(0) + x.hitsOf(1));
        Check.answers(52, 1, () -> Check.run(x, "find 07"));
        Check.answers(52, 11, () -> 10 * x.hitsOf(0) + x.hitsOf(1));
        Check.answers(52, 1, () -> Check.run(x, "find 0"));
        Check.answers(52, 22, () -> 10 * x.hitsOf(0) + x.hitsOf(1));
        Check.answers(52, 1, () -> Check.run(x, "find 7"));
        Check.answers(52, 22, () -> 10 * x.hitsOf(0) + x.hitsOf(1));
        Check.answers(52, 12, () -> Check.run(x, "find;find;find;find;find;find;find;find;find;find;find;find"));
        Check.answers(52, 154, () -> 10 * x.hitsOf(0) + x.hitsOf(1));
        Check.answers(52, 1, () -> Check.run(x, "find 0"));
        Check.answers(52, 1, () -> Check.run(x, "find"));
        Check.answers(52, 2, () -> Check.run(x, "entry 1;find"));
        Check.type(x, "entry");
        Check.refuses(52, UNFIT, () -> x.run());
        Check.answers(53, 5, () -> x.errorPosition());
    }

    private static void malformed() {
        wrongAt(0, "");
        wrongAt(0, " ");
        wrongAt(0, ";");
        wrongAt(0, "Entry 1");
        wrongAt(0, "x");
        wrongAt(1, "e");
        wrongAt(1, "ex");
        wrongAt(5, "entry");
        wrongAt(6, "entry ");
        wrongAt(6, "entry x");
        wrongAt(7, "entry 12");
        wrongAt(7, "entry 1 ");
        wrongAt(8, "entry 1;");
        wrongAt(8, "entry 1; entry 1");
        wrongAt(8, "entry 1;;");
        wrongAt(5, "entry1");
        wrongAt(4, "code");
        wrongAt(5, "code  1 2");
        wrongAt(6, "code 1");
        wrongAt(8, "code 123");
        wrongAt(8, "code 1234 5");
        wrongAt(6, "code 1;");
        wrongAt(7, "code 1 ");
        wrongAt(10, "code 1 234 ");
        wrongAt(10, "code 1 2345");
        wrongAt(1, "cxde");
        wrongAt(2, "unxode");
        wrongAt(9, "uncode 1 ");
        wrongAt(1, "d");
        wrongAt(1, "dxop 1");
        wrongAt(2, "dr");
        wrongAt(2, "da");
        wrongAt(2, "drys 1");
        wrongAt(3, "day 1");
        wrongAt(5, "days ");
        wrongAt(8, "days 1000");
        wrongAt(4, "toucH 1");
        wrongAt(7, "merge 1");
        wrongAt(8, "merge 1 ");
        wrongAt(7, "segment ");
        wrongAt(6, "segmen");
        wrongAt(7, "segment1");
        wrongAt(6, "join 12");
        wrongAt(4, "join");
        wrongAt(3, "fin");
        wrongAt(4, "find0");
        wrongAt(5, "find ");
        wrongAt(5, "find;");
        wrongAt(5, "find ;");
        wrongAt(8, "find 0000");
        wrongAt(6, "find 0x");
        wrongAt(7, "find 00 ");
        wrongAt(15, "find;segment;seX");
        wrongAt(4, "findfind");
    }

    private static void wrongAt(int due, String text) {
        PrefixCodeIndex x = new PrefixCodeIndex();
        x.addEntry(1);
        Check.type(x, text);
        Check.refuses(52, UNFIT, () -> x.run());
        Check.answers(53, due, () -> x.errorPosition());
        Check.refuses(54, MISSING, () -> x.failedCommand());
        Check.answers(52, 1, () -> x.append('f'));
        Check.answers(52, 1, () -> x.undoableCount());
    }

    private static void fullBuffer() {
        String eleven = "find;find;find;find;find;find;find;find;find;find;find;";
        wrongAt(60, eleven + "find;");
        wrongAt(59, eleven + "findX");
        wrongAt(60, eleven + "find ");
        wrongAt(60, eleven + "segme");
    }

    private static void failing() {
        PrefixCodeIndex x = new PrefixCodeIndex();
        x.addEntry(2);
        x.addCode(0, 5);
        x.pass(3);
        x.resultCount(0, 0);
        Check.type(x, "entry 3;code 1 7;uncode 0 5;days 9;segment;drop 3");
        Check.refuses(52, REFUSED, () -> x.run());
        Check.answers(54, 5, () -> x.failedCommand());
        Check.refuses(53, MISSING, () -> x.errorPosition());
        Check.answers(52, "e0 w2 a3 h0 s0 005", () -> Check.entry(x, 0));
        Check.answers(52, 1, () -> x.entryCount());
        Check.answers(52, 1, () -> x.segmentCount());
        Check.answers(52, 1, () -> x.addedTotal());
        Check.answers(52, 1, () -> x.resultCount(3, 5));
        Check.answers(52, 0, () -> x.resultCount(3, 7));
        Check.answers(52, 3, () -> x.undoableCount());
        Check.answers(52, 1, () -> x.append('f'));
        Check.refuses(52, UNFIT, () -> x.run());
        Check.answers(52, 1, () -> x.addEntry(1));
        Check.type(x, "find 0 ");
        Check.refuses(52, UNFIT, () -> x.run());
        Check.answers(53, 6, () -> x.errorPosition());
        Check.answers(54, 5, () -> x.failedCommand());
    }

    private static void everyFailure() {
        failsAt(0, "entry 0");
        failsAt(0, "code 1 5");
        failsAt(1, "code 0 5;code 0 5");
        failsAt(0, "uncode 0 5");
        failsAt(1, "drop 0;drop 0");
        failsAt(0, "touch 1");
        failsAt(0, "merge 0 0");
        failsAt(0, "merge 0 1");
        failsAt(4, "segment;segment;segment;segment;segment");
        failsAt(0, "join 0");
        failsAt(1, "segment;join 2");
        failsAt(1, "segment;join 1");
        failsAt(0, "days 0");
        failsAt(0, "days 61");
        failsAt(2, "days 60;find;days 000");
    }

    private static void failsAt(int due, String text) {
        PrefixCodeIndex x = new PrefixCodeIndex();
        x.addEntry(1);
        Check.type(x, text);
        Check.refuses(52, REFUSED, () -> x.run());
        Check.answers(54, due, () -> x.failedCommand());
        Check.answers(52, "e0 w1 a0 h0 s0", () -> Check.entry(x, 0));
        Check.answers(52, 1, () -> x.segmentCount());
        Check.answers(52, 1, () -> x.undoableCount());
    }

    private static void storedPositions() {
        PrefixCodeIndex x = new PrefixCodeIndex();
        Check.refuses(53, MISSING, () -> x.errorPosition());
        Check.refuses(54, MISSING, () -> x.failedCommand());
        Check.run(x, "find");
        Check.refuses(53, MISSING, () -> x.errorPosition());
        Check.refuses(54, MISSING, () -> x.failedCommand());
        Check.refuses(52, UNFIT, () -> x.run());
        Check.answers(53, 0, () -> x.errorPosition());
        Check.type(x, "drop 0");
        Check.refuses(52, REFUSED, () -> x.run());
        Check.answers(54, 0, () -> x.failedCommand());
        Check.type(x, "find;drop 0");
        Check.refuses(52, REFUSED, () -> x.run());
        Check.answers(54, 1, () -> x.failedCommand());
        Check.run(x, "find");
        Check.answers(53, 0, () -> x.errorPosition());
        Check.answers(54, 1, () -> x.failedCommand());
    }
}
