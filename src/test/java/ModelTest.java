import java.util.Random;

/** Long mixed runs: after each call the class and the model must have answered the same. The seeds are fixed. */
public final class ModelTest {
    private static final int RUNS = 20_000;

    /** What later calls answer is free. */
    private static final int MOST_CALLS = 512;
    private static final String[] WORDS = {
        "entry", "code", "uncode", "drop", "touch", "merge", "segment", "join", "find", "days",
    };

    private final Random random;
    private final PrefixCodeIndex x = new PrefixCodeIndex();
    private final Model model = new Model();
    private final int ids;
    private final int codes;
    private final int gentleness;
    private String pending = "";
    private int calls = 0;
    private int wrong = 0;

    private ModelTest(long seed) {
        random = new Random(seed);
        ids = 3 + random.nextInt(25);
        codes = new int[] {4, 12, 130, 1000}[random.nextInt(4)];
        gentleness = random.nextInt(3);
    }

    public static void main(String[] args) {
        for (int seed = 1; seed <= RUNS; seed++) {
            ModelTest test = new ModelTest(seed);
            while (test.calls < MOST_CALLS && test.wrong == 0) {
                test.step();
            }
            int due = test.wrong;
            Check.answers(47, 0, () -> due);
        }
        Check.finish();
    }

    private int pick(int bound) {
        return random.nextInt(bound);
    }

    private int odd(int usual) {
        int[] odds = {-1, -2, 1000, 61, 60, 10, 999, Integer.MAX_VALUE, Integer.MIN_VALUE, 20};
        return pick(40) == 0 ? odds[pick(odds.length)] : usual;
    }

    private int anId() {
        int count = (Integer) model.entryCount();
        return count > 0 && pick(8) > 0 ? (Integer) model.idAt(pick(count)) : odd(pick(ids));
    }

    private int aCode() {
        return odd(pick(codes) * (codes == 12 ? 83 : 1));
    }

    private int digits() {
        return odd(pick(25) == 0 ? 4 : pick(4));
    }

    private int value(int digits) {
        int code = pick(codes) * (codes == 12 ? 83 : 1);
        int[] cut = {1000, 100, 10, 1};
        return odd(digits >= 0 && digits <= 3 ? code / cut[digits] : pick(12));
    }

    private void compare(String call, Check.Call got, Check.Call due) {
        if (calls >= MOST_CALLS) {
            return;
        }
        calls++;
        String answer = Check.outcome(got);
        String wanted = Check.outcome(due);
        if (!answer.equals(wanted)) {
            wrong++;
            System.out.println(call + " answered " + answer + ", due is " + wanted);
        }
    }

    private void step() {
        if (!pending.isEmpty()) {
            type(pending.charAt(0));
            pending = pending.substring(1);
            return;
        }
        int kind = pick(100);
        if (kind < 45) {
            change();
        } else if (kind < 50) {
            program();
        } else if (kind < 55) {
            compare("undo", () -> x.undo(), () -> model.undo());
        } else if (kind < 57) {
            compare("save", () -> x.save(), () -> model.save());
        } else if (kind < 59) {
            compare("restore", () -> x.restore(), () -> model.restore());
        } else if (kind < 72) {
            askEntry();
        } else if (kind < 86) {
            askPrefix();
        } else {
            askWhole();
        }
    }

    private int weighedKind() {
        int[] kinds = {0, 0, 0, 0, 1, 1, 1, 1, 1, 1, 1, 2, 3, 4, 5, 5, 6, 7, 8, 8, 8, 9};
        return kinds[pick(kinds.length)];
    }

    private int days() {
        return odd(gentleness == 0 ? pick(62) : 1 + pick(gentleness == 1 ? 4 : 20));
    }

    private void change() {
        int kind = weighedKind();
        int id = anId();
        int other = anId();
        int code = aCode();
        int digits = digits();
        int value = value(digits);
        int[] firsts = {odd(pick(10)), id, id, id, id, id, 0, odd(pick(5)), digits, days()};
        int[] seconds = {0, code, code, 0, 0, other, 0, 0, value, 0};
        int first = firsts[kind];
        int second = seconds[kind];
        compare(WORDS[kind] + "(" + first + ", " + second + ")", () -> direct(kind, first, second),
                () -> model.change(WORDS[kind], first, second));
    }

    private int direct(int kind, int first, int second) {
        switch (kind) {
            case 0:
                return x.addEntry(first);
            case 1:
                return x.addCode(first, second);
            case 2:
                return x.removeCode(first, second);
            case 3:
                return x.removeEntry(first);
            case 4:
                return x.touch(first);
            case 5:
                return x.merge(first, second);
            case 6:
                return x.startSegment();
            case 7:
                return x.joinSegments(first);
            case 8:
                return x.search(first, second);
            default:
                return x.pass(first);
        }
    }

    private void type(char character) {
        if (character == '\n') {
            compare("run", () -> x.run(), () -> model.run());
            compare("errorPosition", () -> x.errorPosition(), () -> model.errorPosition());
            compare("failedCommand", () -> x.failedCommand(), () -> model.failedCommand());
        } else {
            compare("append", () -> x.append(character), () -> model.append(character));
        }
    }

    /** A program, often with a fault, and a new line for its run; some programs are left in the buffer. */
    private void program() {
        StringBuilder text = new StringBuilder(command());
        int more = pick(7);
        for (int i = 0; i < more; i++) {
            text.append(';').append(command());
        }
        String strange = "efdscu mrtj;0129 ~\u001f\u007f";
        int faults = Math.max(0, pick(5) - 3);
        for (int i = 0; i < faults; i++) {
            int at = pick(text.length() + 1);
            char put = strange.charAt(pick(strange.length()));
            switch (pick(4)) {
                case 0:
                    text.insert(at, put);
                    break;
                case 1:
                    text.setLength(Math.max(1, at));
                    break;
                case 2:
                    text.deleteCharAt(Math.min(at, text.length() - 1));
                    break;
                default:
                    text.setCharAt(Math.min(at, text.length() - 1), put);
                    break;
            }
            if (text.length() == 0) {
                text.append(' ');
            }
        }
        if (text.length() > 60 && pick(4) > 0) {
            int end = text.lastIndexOf(";", 60);
            text.setLength(end > 0 && pick(2) == 0 ? end : 60);
        }
        pending = text + (pick(10) > 0 ? "\n" : "");
    }

    private String number(int value) {
        int shown = Math.max(0, Math.min(999, value));
        String[] forms = {"%d", "%d", "%02d", "%03d"};
        return String.format(forms[pick(4)], shown);
    }

    private String command() {
        int kind = weighedKind();
        String id = number(anId());
        switch (kind) {
            case 0:
                return "entry " + (pick(20) == 0 ? 0 : 1 + pick(9));
            case 1:
            case 2:
                return WORDS[kind] + " " + id + " " + number(aCode());
            case 5:
                return "merge " + id + " " + number(anId());
            case 6:
                return "segment";
            case 7:
                return "join " + pick(4);
            case 8:
                return pick(3) == 0 ? "find" : "find " + number(aCode()).substring(0, 1);
            case 9:
                return "days " + number(days());
            default:
                return WORDS[kind] + " " + id;
        }
    }

    private void askEntry() {
        int id = anId();
        int other = anId();
        compare("weightOf", () -> x.weightOf(id), () -> model.property("weight", id));
        compare("ageOf", () -> x.ageOf(id), () -> model.property("age", id));
        compare("hitsOf", () -> x.hitsOf(id), () -> model.property("hits", id));
        compare("lifetimeOf", () -> x.lifetimeOf(id), () -> model.property("lifetime", id));
        compare("segmentOf", () -> x.segmentOf(id), () -> model.property("segment", id));
        compare("codeCount", () -> x.codeCount(id), () -> model.property("codes", id));
        compare("daysUntilFaded", () -> x.daysUntilFaded(id), () -> model.property("left", id));
        compare("daysUntilFadedByDays", () -> x.daysUntilFadedByDays(id), () -> model.property("left", id));
        int position = odd(pick(7));
        compare("codeAt", () -> x.codeAt(id, position), () -> model.codeAt(id, position));
        int code = aCode();
        compare("hasCode", () -> x.hasCode(id, code), () -> model.hasCode(id, code));
        int digits = digits();
        int value = value(digits);
        compare("matches", () -> x.matches(id, digits, value), () -> model.matches(id, digits, value));
        compare("scoreOf", () -> x.scoreOf(id, digits, value), () -> model.scoreOf(id, digits, value));
        compare("sharedCodes", () -> x.sharedCodes(id, other), () -> model.sharedCodes(id, other));
        compare("mostSimilar", () -> x.mostSimilar(id), () -> model.mostSimilar(id));
        compare("formatEntry", () -> x.formatEntry(id), () -> model.formatEntry(id));
        compareLine();
    }

    private void askPrefix() {
        int digits = digits();
        int value = value(digits);
        compare("resultCount", () -> x.resultCount(digits, value), () -> model.resultCount(digits, value));
        compare("byScan", () -> x.resultCountByScan(digits, value), () -> model.resultCount(digits, value));
        compare("codesWith", () -> x.codesWith(digits, value), () -> model.codesWith(digits, value));
        compare("nextDigits", () -> x.nextDigits(digits, value), () -> model.nextDigits(digits, value));
        int rank = odd(pick(6));
        compare("resultAt", () -> x.resultAt(digits, value, rank), () -> model.resultAt(digits, value, rank));
        compare("formatResults", () -> x.formatResults(digits, value), () -> model.formatResults(digits, value));
        compareLine();
        int code = aCode();
        compare("sharedDigits", () -> x.sharedDigits(code), () -> model.sharedDigits(code));
        compare("sharedByScan", () -> x.sharedDigitsByScan(code), () -> model.sharedDigits(code));
        compare("entriesWith", () -> x.entriesWith(code), () -> model.entriesWith(code));
        compare("codeAfter", () -> x.codeAfter(code), () -> model.codeAfter(code));
    }

    /** Now and then, for the line takes many calls. */
    private void compareLine() {
        int length = pick(6) == 0 ? 60 : pick(3);
        for (int i = -1; i <= length && wrong == 0; i++) {
            int index = i;
            compare("lineChar", () -> x.lineChar(index), () -> model.lineChar(index));
        }
    }

    private void askWhole() {
        compare("entryCount", () -> x.entryCount(), () -> model.entryCount());
        compare("segmentCount", () -> x.segmentCount(), () -> model.segmentCount());
        int position = odd(pick(22));
        compare("idAt", () -> x.idAt(position), () -> model.idAt(position));
        int segment = odd(pick(6));
        compare("entriesIn", () -> x.entriesIn(segment), () -> model.entriesIn(segment));
        compare("commonestCode", () -> x.commonestCode(), () -> model.commonestCode());
        int days = odd(pick(62));
        compare("fadingWithin", () -> x.fadingWithin(days), () -> model.fadingWithin(days));
        compare("addedTotal", () -> x.addedTotal(), () -> model.total("added"));
        compare("removedTotal", () -> x.removedTotal(), () -> model.total("removed"));
        compare("mergedTotal", () -> x.mergedTotal(), () -> model.total("merged"));
        compare("fadedTotal", () -> x.fadedTotal(), () -> model.total("faded"));
        compare("meanCodes", () -> x.meanCodes(), () -> model.meanCodes());
        compare("fadedShare", () -> x.fadedShare(), () -> model.fadedShare());
        compare("isConsistent", () -> x.isConsistent(), () -> true);
        compare("errorPosition", () -> x.errorPosition(), () -> model.errorPosition());
        compare("failedCommand", () -> x.failedCommand(), () -> model.failedCommand());
        compare("undoableCount", () -> x.undoableCount(), () -> model.undoableCount());
    }
}
