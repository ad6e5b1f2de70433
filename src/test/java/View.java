/** What an index answers, as one text. No call here changes anything. */
final class View {
    private static final int LONGEST_LINE = 600;

    private View() {
    }

    /** What changes can change, as far as it can be asked. */
    static String index(PrefixCodeIndex x) {
        StringBuilder text = new StringBuilder();
        int entries = x.entryCount();
        for (int position = 0; position < entries; position++) {
            entry(x, x.idAt(position), text);
        }
        int segments = x.segmentCount();
        for (int segment = 0; segment < segments; segment++) {
            text.append(x.entriesIn(segment)).append(' ');
        }
        text.append("+").append(x.addedTotal()).append(" -").append(x.removedTotal());
        text.append(" m").append(x.mergedTotal()).append(" f").append(x.fadedTotal());
        text.append(" results ").append(x.resultCount(0, 0)).append(" codes ").append(x.codesWith(0, 0));
        text.append(" commonest ").append(Check.outcome(() -> x.commonestCode()));
        return text.toString();
    }

    private static void entry(PrefixCodeIndex x, int id, StringBuilder text) {
        text.append('e').append(id).append(" w").append(x.weightOf(id)).append(" a").append(x.ageOf(id));
        text.append(" h").append(x.hitsOf(id)).append(" s").append(x.segmentOf(id));
        int codes = x.codeCount(id);
        for (int position = 0; position < codes; position++) {
            text.append(' ').append(x.codeAt(id, position));
        }
        text.append('/');
    }

    /** The index, and what stands beside it but for the input buffer. */
    static String whole(PrefixCodeIndex x) {
        return index(x) + " undoable " + x.undoableCount() + " error " + Check.outcome(() -> x.errorPosition())
                + " failed " + Check.outcome(() -> x.failedCommand()) + " line " + line(x);
    }

    static String line(PrefixCodeIndex x) {
        StringBuilder text = new StringBuilder();
        for (int i = 0; i < LONGEST_LINE; i++) {
            int index = i;
            String character = Check.outcome(() -> x.lineChar(index));
            if (character.length() != 1) {
                return text.toString();
            }
            text.append(character);
        }
        return text.toString();
    }
}
