import java.util.Arrays;
import java.util.NoSuchElementException;

/** A search index for entries with codes of three digits. */
public final class PrefixCodeIndex {
    private static final int MOST_ENTRIES = 20;
    private static final int MOST_CODES = 6;
    private static final int MOST_SEGMENTS = 5;
    private static final int MOST_WEIGHT = 9;
    private static final int MOST_DAYS = 60;
    private static final int MOST_UNDO = 8;
    private static final int LONGEST_LIFE = 150;
    private static final int CODE_DIGITS = 3;
    private static final int CODE_LIMIT = 1000;
    private static final int BUFFER_ROOM = 60;

    /** The shortest command has four characters, so more commands never fit into the buffer. */
    private static final int MOST_COMMANDS = BUFFER_ROOM / 4;

    /** A result takes two numbers of up to 11 characters, "=" and ",". */
    private static final int LINE_ROOM = MOST_ENTRIES * 24;

    private static final int NONE = -1;

    // The kinds of changes, which are also the kinds of commands.
    private static final int ADD_ENTRY = 0;
    private static final int ADD_CODE = 1;
    private static final int REMOVE_CODE = 2;
    private static final int REMOVE_ENTRY = 3;
    private static final int TOUCH = 4;
    private static final int MERGE = 5;
    private static final int START_SEGMENT = 6;
    private static final int JOIN_SEGMENTS = 7;
    private static final int SEARCH = 8;
    private static final int PASS = 9;
    private static final int KINDS = 10;

    // Why a change is refused. Every answer of a change is 0 or more, so these can stand in its place.
    private static final int MISSING = -1;
    private static final int UNFIT = -2;
    private static final int REFUSED = -3;
    private static final int OUTSIDE = -4;

    private final Contents contents = new Contents();
    private final Contents saved = new Contents();
    private final History history = new History();
    private final Trie trie = new Trie();
    private final Ranking ranking = new Ranking();
    private final Program program = new Program();
    private final Line line = new Line();
    private final Entry agingCopy = new Entry();
    private boolean trieIsStale = false;
    private boolean copyIsSaved = false;
    private int storedErrorPosition = NONE;
    private int storedFailedCommand = NONE;

    public PrefixCodeIndex() {
    }

    // Changes

    public int addEntry(int weight) throws IllegalArgumentException, IllegalStateException {
        return change(ADD_ENTRY, weight, 0);
    }

    public int addCode(int id, int code)
            throws NoSuchElementException, IllegalArgumentException, IllegalStateException {
        return change(ADD_CODE, id, code);
    }

    public int removeCode(int id, int code)
            throws NoSuchElementException, IllegalArgumentException, IllegalStateException {
        return change(REMOVE_CODE, id, code);
    }

    public int removeEntry(int id) throws NoSuchElementException {
        return change(REMOVE_ENTRY, id, 0);
    }

    public int touch(int id) throws NoSuchElementException {
        return change(TOUCH, id, 0);
    }

    public int merge(int id, int other)
            throws NoSuchElementException, IllegalArgumentException, IllegalStateException {
        return change(MERGE, id, other);
    }

    public int startSegment() throws IllegalStateException {
        return change(START_SEGMENT, 0, 0);
    }

    public int joinSegments(int segment) throws IndexOutOfBoundsException, IllegalStateException {
        return change(JOIN_SEGMENTS, segment, 0);
    }

    public int search(int digits, int value) throws IllegalArgumentException {
        return change(SEARCH, digits, value);
    }

    public int pass(int days) throws IllegalArgumentException {
        return change(PASS, days, 0);
    }

    private int change(int kind, int first, int second) {
        history.mark(contents);
        int answer = contents.perform(kind, first, second);
        if (answer < 0) {
            throwFor(answer);
        }
        history.keepMark();
        trieIsStale = true;
        return answer;
    }

    private static void throwFor(int fault) {
        switch (fault) {
            case MISSING:
                throw new NoSuchElementException("no such entry");
            case UNFIT:
                throw new IllegalArgumentException("an argument is out of range");
            case OUTSIDE:
                throw new IndexOutOfBoundsException("no such segment");
            default:
                throw new IllegalStateException("the index does not allow this");
        }
    }

    // Entries

    public int entryCount() {
        return contents.entryCount;
    }

    public int idAt(int position) throws IndexOutOfBoundsException {
        if (position < 0 || position >= contents.entryCount) {
            throw new IndexOutOfBoundsException("no such position");
        }
        return contents.entries[position].id;
    }

    public int weightOf(int id) throws NoSuchElementException {
        return existing(id).weight;
    }

    public int ageOf(int id) throws NoSuchElementException {
        return existing(id).age;
    }

    public int hitsOf(int id) throws NoSuchElementException {
        return existing(id).hits;
    }

    public int lifetimeOf(int id) throws NoSuchElementException {
        return existing(id).lifetime();
    }

    public int segmentOf(int id) throws NoSuchElementException {
        return existing(id).segment;
    }

    public int codeCount(int id) throws NoSuchElementException {
        return existing(id).size;
    }

    public int codeAt(int id, int position) throws NoSuchElementException, IndexOutOfBoundsException {
        Entry entry = existing(id);
        if (position < 0 || position >= entry.size) {
            throw new IndexOutOfBoundsException("no such position");
        }
        return entry.codes[position];
    }

    public boolean hasCode(int id, int code) throws NoSuchElementException, IllegalArgumentException {
        Entry entry = existing(id);
        requireCode(code);
        return entry.holds(code);
    }

    public boolean matches(int id, int digits, int value)
            throws NoSuchElementException, IllegalArgumentException {
        Entry entry = existing(id);
        requirePrefix(digits, value);
        return entry.countWith(digits, value) > 0;
    }

    private Entry existing(int id) {
        Entry entry = contents.find(id);
        if (entry == null) {
            throw new NoSuchElementException("no such entry");
        }
        return entry;
    }

    // Segments

    public int segmentCount() {
        return contents.segments;
    }

    public int entriesIn(int segment) throws IndexOutOfBoundsException {
        if (segment < 0 || segment >= contents.segments) {
            throw new IndexOutOfBoundsException("no such segment");
        }
        int count = 0;
        for (int i = 0; i < contents.entryCount; i++) {
            if (contents.entries[i].segment == segment) {
                count++;
            }
        }
        return count;
    }

    // Results

    public int resultCount(int digits, int value) throws IllegalArgumentException {
        requirePrefix(digits, value);
        return freshTrie().entriesAt(Trie.nodeOf(digits, value));
    }

    public int resultCountByScan(int digits, int value) throws IllegalArgumentException {
        requirePrefix(digits, value);
        int count = 0;
        for (int i = 0; i < contents.entryCount; i++) {
            if (contents.entries[i].countWith(digits, value) > 0) {
                count++;
            }
        }
        return count;
    }

    public int resultAt(int digits, int value, int rank)
            throws IllegalArgumentException, NoSuchElementException {
        requirePrefix(digits, value);
        ranking.order(contents, digits, value);
        if (rank < 0 || rank >= ranking.size) {
            throw new NoSuchElementException("no such rank");
        }
        return ranking.ids[rank];
    }

    public int scoreOf(int id, int digits, int value)
            throws NoSuchElementException, IllegalArgumentException {
        Entry entry = existing(id);
        requirePrefix(digits, value);
        return entry.score(digits, value);
    }

    // Codes

    public int codesWith(int digits, int value) throws IllegalArgumentException {
        requirePrefix(digits, value);
        return freshTrie().codesAt(Trie.nodeOf(digits, value));
    }

    public int nextDigits(int digits, int value) throws IllegalArgumentException {
        requirePrefix(digits, value);
        if (digits == CODE_DIGITS) {
            throw new IllegalArgumentException("nothing can continue a whole code");
        }
        return freshTrie().branchesAt(Trie.nodeOf(digits, value));
    }

    public int sharedDigits(int code) throws IllegalArgumentException {
        requireCode(code);
        return freshTrie().depthReachedBy(code);
    }

    public int sharedDigitsByScan(int code) throws IllegalArgumentException {
        requireCode(code);
        int longest = 0;
        for (int i = 0; i < contents.entryCount; i++) {
            Entry entry = contents.entries[i];
            for (int j = 0; j < entry.size; j++) {
                longest = Math.max(longest, commonDigits(code, entry.codes[j]));
            }
        }
        return longest;
    }

    public int entriesWith(int code) throws IllegalArgumentException {
        requireCode(code);
        return freshTrie().entriesAt(Trie.nodeOf(CODE_DIGITS, code));
    }

    public int codeAfter(int code) throws IllegalArgumentException, NoSuchElementException {
        if (code < -1 || code >= CODE_LIMIT) {
            throw new IllegalArgumentException("the code is out of range");
        }
        int lowest = CODE_LIMIT;
        for (int i = 0; i < contents.entryCount; i++) {
            lowest = Math.min(lowest, contents.entries[i].lowestAbove(code));
        }
        if (lowest == CODE_LIMIT) {
            throw new NoSuchElementException("no greater code");
        }
        return lowest;
    }

    public int commonestCode() throws NoSuchElementException {
        int commonest = freshTrie().commonestLeaf();
        if (commonest == NONE) {
            throw new NoSuchElementException("no entry has a code");
        }
        return commonest;
    }

    public int sharedCodes(int id, int other) throws NoSuchElementException {
        return existing(id).countShared(existing(other));
    }

    public int mostSimilar(int id) throws NoSuchElementException {
        Entry entry = existing(id);
        int best = NONE;
        int mostShared = NONE;
        for (int i = 0; i < contents.entryCount; i++) {
            Entry other = contents.entries[i];
            int shared = entry.countShared(other);
            if (other.id != id && shared > mostShared) {
                best = other.id;
                mostShared = shared;
            }
        }
        if (best == NONE) {
            throw new NoSuchElementException("no other entry");
        }
        return best;
    }

    private Trie freshTrie() {
        if (trieIsStale) {
            trie.build(contents);
            trieIsStale = false;
        }
        return trie;
    }

    // Fading

    public int daysUntilFaded(int id) throws NoSuchElementException {
        return existing(id).daysLeft();
    }

    public int daysUntilFadedByDays(int id) throws NoSuchElementException {
        agingCopy.copyFrom(existing(id));
        int days = 0;
        while (days <= LONGEST_LIFE && !agingCopy.hasFaded()) {
            agingCopy.age++;
            days++;
        }
        return days;
    }

    public int fadingWithin(int days) throws IllegalArgumentException {
        if (days < 1 || days > MOST_DAYS) {
            throw new IllegalArgumentException("the number of days is out of range");
        }
        int count = 0;
        for (int i = 0; i < contents.entryCount; i++) {
            if (contents.entries[i].daysLeft() <= days) {
                count++;
            }
        }
        return count;
    }

    // Totals

    public int addedTotal() {
        return contents.added;
    }

    public int removedTotal() {
        return contents.removed;
    }

    public int mergedTotal() {
        return contents.merged;
    }

    public int fadedTotal() {
        return contents.faded;
    }

    public double meanCodes() throws ArithmeticException {
        int sum = 0;
        for (int i = 0; i < contents.entryCount; i++) {
            sum += contents.entries[i].size;
        }
        if (contents.entryCount == 0) {
            throw new ArithmeticException("no entries");
        }
        return (double) sum / (double) contents.entryCount;
    }

    public float fadedShare() throws ArithmeticException {
        if (contents.added == 0) {
            throw new ArithmeticException("no entry has been added");
        }
        return (float) contents.faded / (float) contents.added;
    }

    // Consistency

    public boolean isConsistent() {
        return resultCountsAgree() && sharedDigitsAgree() && fadingAgrees() && totalsAgree();
    }

    private boolean resultCountsAgree() {
        boolean agree = resultCount(0, 0) == resultCountByScan(0, 0);
        for (int digit = 0; digit < 10; digit++) {
            agree = agree && resultCount(1, digit) == resultCountByScan(1, digit);
        }
        return agree;
    }

    private boolean sharedDigitsAgree() {
        for (int i = 0; i < contents.entryCount; i++) {
            Entry entry = contents.entries[i];
            for (int j = 0; j < entry.size; j++) {
                if (sharedDigits(entry.codes[j]) != sharedDigitsByScan(entry.codes[j])) {
                    return false;
                }
            }
        }
        return true;
    }

    private boolean fadingAgrees() {
        for (int i = 0; i < contents.entryCount; i++) {
            int id = contents.entries[i].id;
            if (daysUntilFaded(id) != daysUntilFadedByDays(id)) {
                return false;
            }
        }
        return true;
    }

    private boolean totalsAgree() {
        int accounted = contents.entryCount + contents.removed + contents.merged + contents.faded;
        return contents.added == accounted;
    }

    // The line

    public int formatEntry(int id) throws NoSuchElementException {
        Entry entry = existing(id);
        line.clear();
        line.putField('e', entry.id);
        line.put(' ');
        line.putField('w', entry.weight);
        line.put(' ');
        line.putField('a', entry.age);
        line.put(' ');
        line.putField('h', entry.hits);
        line.put(' ');
        line.putField('s', entry.segment);
        for (int i = 0; i < entry.size; i++) {
            line.put(' ');
            line.putCode(entry.codes[i]);
        }
        return line.length;
    }

    public int formatResults(int digits, int value) throws IllegalArgumentException {
        requirePrefix(digits, value);
        ranking.order(contents, digits, value);
        line.clear();
        for (int rank = 0; rank < ranking.size; rank++) {
            if (rank > 0) {
                line.put(',');
            }
            line.putNumber(ranking.ids[rank]);
            line.put('=');
            line.putNumber(ranking.scores[rank]);
        }
        return line.length;
    }

    public char lineChar(int index) throws IndexOutOfBoundsException {
        if (index < 0 || index >= line.length) {
            throw new IndexOutOfBoundsException("no such character");
        }
        return line.chars[index];
    }

    // Programs

    public int append(char character) throws IllegalArgumentException, IllegalStateException {
        if (character < ' ' || character > '~') {
            throw new IllegalArgumentException("not a printable character");
        }
        if (program.length >= BUFFER_ROOM) {
            throw new IllegalStateException("the buffer is full");
        }
        return program.add(character);
    }

    public int run() throws IllegalArgumentException, IllegalStateException {
        int error = program.read();
        program.clear();
        if (error != NONE) {
            storedErrorPosition = error;
            throw new IllegalArgumentException("the program is malformed");
        }
        history.mark(contents);
        int failed = firstFailing();
        if (failed != NONE) {
            history.returnToMark(contents);
            storedFailedCommand = failed;
            throw new IllegalStateException("a command failed");
        }
        history.keepMark();
        trieIsStale = true;
        return program.count;
    }

    /** Performs the commands up to the first one that fails, and tells which one that is, or NONE. */
    private int firstFailing() {
        for (int i = 0; i < program.count; i++) {
            int answer = contents.perform(program.kinds[i], program.firsts[i], program.seconds[i]);
            if (answer < 0) {
                return i;
            }
        }
        return NONE;
    }

    public int errorPosition() throws NoSuchElementException {
        if (storedErrorPosition == NONE) {
            throw new NoSuchElementException("no program was malformed");
        }
        return storedErrorPosition;
    }

    public int failedCommand() throws NoSuchElementException {
        if (storedFailedCommand == NONE) {
            throw new NoSuchElementException("no command failed");
        }
        return storedFailedCommand;
    }

    // Undo and the saved copy

    public int undoableCount() {
        return history.size;
    }

    public int undo() throws IllegalStateException {
        if (history.size == 0) {
            throw new IllegalStateException("no change can be undone");
        }
        history.takeBack(contents);
        trieIsStale = true;
        return history.size;
    }

    public int save() {
        saved.copyFrom(contents);
        copyIsSaved = true;
        return saved.entryCount;
    }

    public int restore() throws IllegalStateException {
        if (!copyIsSaved) {
            throw new IllegalStateException("no saved copy");
        }
        contents.copyFrom(saved);
        history.forget();
        trieIsStale = true;
        return contents.entryCount;
    }

    // Codes and prefixes

    private static void requireCode(int code) {
        if (!isCode(code)) {
            throw new IllegalArgumentException("the code is out of range");
        }
    }

    private static void requirePrefix(int digits, int value) {
        if (!isPrefix(digits, value)) {
            throw new IllegalArgumentException("no such prefix");
        }
    }

    private static boolean isCode(int code) {
        return code >= 0 && code < CODE_LIMIT;
    }

    private static boolean isPrefix(int digits, int value) {
        return digits >= 0 && digits <= CODE_DIGITS
                && value >= 0 && withoutEnd(value, digits) == 0;
    }

    private static boolean hasPrefix(int code, int digits, int value) {
        return withoutEnd(code, CODE_DIGITS - digits) == value;
    }

    private static int withoutEnd(int number, int digits) {
        int rest = number;
        for (int i = 0; i < digits; i++) {
            rest /= 10;
        }
        return rest;
    }

    private static int commonDigits(int code, int other) {
        if (code == other) {
            return 3;
        }
        if (code / 10 == other / 10) {
            return 2;
        }
        return code / 100 == other / 100 ? 1 : 0;
    }

    /** An entry; its codes stand in ascending order. */
    private static final class Entry {
        int id;
        int weight;
        int age;
        int hits;
        int segment;
        int size;
        final int[] codes = new int[MOST_CODES];

        void begin(int newId, int newWeight, int newSegment) {
            id = newId;
            weight = newWeight;
            age = 0;
            hits = 0;
            segment = newSegment;
            size = 0;
        }

        void copyFrom(Entry other) {
            id = other.id;
            weight = other.weight;
            age = other.age;
            hits = other.hits;
            segment = other.segment;
            size = other.size;
            System.arraycopy(other.codes, 0, codes, 0, MOST_CODES);
        }

        int lifetime() {
            int days = 10 * weight + 5 * hits;
            return days < LONGEST_LIFE ? days : LONGEST_LIFE;
        }

        boolean hasFaded() {
            return age > lifetime();
        }

        int daysLeft() {
            return lifetime() - age + 1;
        }

        int score(int digits, int value) {
            return 10 * weight + 5 * countWith(digits, value) - age;
        }

        int countWith(int digits, int value) {
            int count = 0;
            for (int i = 0; i < size; i++) {
                if (hasPrefix(codes[i], digits, value)) {
                    count++;
                }
            }
            return count;
        }

        boolean holds(int code) {
            for (int i = 0; i < size; i++) {
                if (codes[i] == code) {
                    return true;
                }
            }
            return false;
        }

        int lowestAbove(int code) {
            for (int i = 0; i < size; i++) {
                if (codes[i] > code) {
                    return codes[i];
                }
            }
            return CODE_LIMIT;
        }

        int countShared(Entry other) {
            int count = 0;
            for (int i = 0; i < size; i++) {
                if (other.holds(codes[i])) {
                    count++;
                }
            }
            return count;
        }

        void insert(int code) {
            if (size >= MOST_CODES) {
                return;
            }
            int place = size;
            while (place > 0 && codes[place - 1] > code) {
                codes[place] = codes[place - 1];
                place--;
            }
            codes[place] = code;
            size++;
        }

        void delete(int code) {
            int kept = 0;
            for (int i = 0; i < size; i++) {
                if (codes[i] != code) {
                    codes[kept] = codes[i];
                    kept++;
                }
            }
            size = kept;
        }

        void absorb(Entry other) {
            for (int i = 0; i < other.size; i++) {
                if (!holds(other.codes[i])) {
                    insert(other.codes[i]);
                }
            }
            weight = Math.max(weight, other.weight);
            age = Math.min(age, other.age);
            hits += other.hits;
        }
    }

    /**
     * Everything that changes can change: what undo takes back and what is saved.
     * A change that is refused answers the reason and leaves everything as it is.
     */
    private static final class Contents {
        /** Those in use come first, in the order of their ids; the others are kept for reuse. */
        final Entry[] entries = new Entry[MOST_ENTRIES];
        int entryCount = 0;
        int nextId = 0;
        int segments = 1;
        int added = 0;
        int removed = 0;
        int merged = 0;
        int faded = 0;

        Contents() {
            for (int i = 0; i < MOST_ENTRIES; i++) {
                entries[i] = new Entry();
            }
        }

        void copyFrom(Contents other) {
            for (int i = 0; i < other.entryCount; i++) {
                entries[i].copyFrom(other.entries[i]);
            }
            entryCount = other.entryCount;
            nextId = other.nextId;
            segments = other.segments;
            added = other.added;
            removed = other.removed;
            merged = other.merged;
            faded = other.faded;
        }

        Entry find(int id) {
            for (int i = 0; i < entryCount; i++) {
                if (entries[i].id == id) {
                    return entries[i];
                }
            }
            return null;
        }

        int perform(int kind, int first, int second) {
            switch (kind) {
                case ADD_ENTRY:
                    return putEntry(first);
                case ADD_CODE:
                    return putCode(first, second);
                case REMOVE_CODE:
                    return takeCode(first, second);
                case REMOVE_ENTRY:
                    return takeEntry(first);
                case TOUCH:
                    return freshen(first);
                case MERGE:
                    return mergeInto(first, second);
                case START_SEGMENT:
                    return openSegment();
                case JOIN_SEGMENTS:
                    return joinWithNext(first);
                case SEARCH:
                    return hitAll(first, second);
                default:
                    return passDays(first);
            }
        }

        private int putEntry(int weight) {
            if (weight < 1 || weight > MOST_WEIGHT) {
                return UNFIT;
            }
            if (entryCount >= MOST_ENTRIES) {
                return REFUSED;
            }
            int id = nextId;
            entries[entryCount].begin(id, weight, segments - 1);
            entryCount++;
            nextId++;
            added++;
            return id;
        }

        private int putCode(int id, int code) {
            Entry entry = find(id);
            if (entry == null) {
                return MISSING;
            }
            if (!isCode(code)) {
                return UNFIT;
            }
            if (entry.holds(code) || entry.size >= MOST_CODES) {
                return REFUSED;
            }
            entry.insert(code);
            return entry.size;
        }

        private int takeCode(int id, int code) {
            Entry entry = find(id);
            if (entry == null) {
                return MISSING;
            }
            if (!isCode(code)) {
                return UNFIT;
            }
            if (!entry.holds(code)) {
                return REFUSED;
            }
            entry.delete(code);
            return entry.size;
        }

        private int takeEntry(int id) {
            Entry entry = find(id);
            if (entry == null) {
                return MISSING;
            }
            discard(entry);
            removed++;
            return entryCount;
        }

        private int freshen(int id) {
            Entry entry = find(id);
            if (entry == null) {
                return MISSING;
            }
            int before = entry.age;
            entry.age = 0;
            return before;
        }

        private int mergeInto(int id, int otherId) {
            Entry entry = find(id);
            Entry other = find(otherId);
            if (entry == null || other == null) {
                return MISSING;
            }
            if (id == otherId) {
                return UNFIT;
            }
            if (entry.size + other.size - entry.countShared(other) > MOST_CODES) {
                return REFUSED;
            }
            other.absorb(entry);
            discard(entry);
            merged++;
            return other.size;
        }

        private int openSegment() {
            if (segments >= MOST_SEGMENTS) {
                return REFUSED;
            }
            segments++;
            return segments - 1;
        }

        private int joinWithNext(int segment) {
            if (segment < 0 || segment >= segments) {
                return OUTSIDE;
            }
            if (segment == segments - 1) {
                return REFUSED;
            }
            for (int i = 0; i < entryCount; i++) {
                if (entries[i].segment > segment) {
                    entries[i].segment--;
                }
            }
            segments--;
            return segments;
        }

        private int hitAll(int digits, int value) {
            if (!isPrefix(digits, value)) {
                return UNFIT;
            }
            int results = 0;
            for (int i = 0; i < entryCount; i++) {
                Entry entry = entries[i];
                if (entry.countWith(digits, value) > 0) {
                    entry.age = 0;
                    entry.hits++;
                    results++;
                }
            }
            return results;
        }

        private int passDays(int days) {
            if (days < 1 || days > MOST_DAYS) {
                return UNFIT;
            }
            int fading = 0;
            for (int day = 0; day < days; day++) {
                fading += passDay();
            }
            faded += fading;
            return fading;
        }

        private int passDay() {
            int fading = 0;
            for (int i = entryCount - 1; i >= 0; i--) {
                Entry entry = entries[i];
                entry.age++;
                if (entry.hasFaded()) {
                    discard(entry);
                    fading++;
                }
            }
            return fading;
        }

        /** Moves the entry behind those in use, so that its row can be used again. */
        private void discard(Entry entry) {
            int kept = 0;
            for (int i = 0; i < entryCount; i++) {
                if (entries[i].id != entry.id) {
                    entries[kept] = entries[i];
                    kept++;
                }
            }
            if (kept < entryCount) {
                entries[kept] = entry;
                entryCount = kept;
            }
        }
    }

    /** The contents before each of the latest changes, and a mark that may become one more of them. */
    private static final class History {
        private static final int ROWS = MOST_UNDO + 1;

        private final Contents[] rows = new Contents[ROWS];
        private int marked = 0;
        int size = 0;

        History() {
            for (int i = 0; i < ROWS; i++) {
                rows[i] = new Contents();
            }
        }

        void mark(Contents now) {
            rows[marked].copyFrom(now);
        }

        void returnToMark(Contents target) {
            target.copyFrom(rows[marked]);
        }

        void keepMark() {
            marked = (marked + 1) % ROWS;
            size = Math.min(MOST_UNDO, size + 1);
        }

        void takeBack(Contents target) {
            marked = (marked + ROWS - 1) % ROWS;
            size--;
            target.copyFrom(rows[marked]);
        }

        void forget() {
            size = 0;
        }
    }

    /**
     * A trie of all codes. Its nodes are numbered level by level: node 0 is the prefix without digits,
     * and the child of a node for a digit is 10 times its number, plus the digit, plus 1.
     */
    private static final class Trie {
        private static final int FIRST_LEAF = 111;
        private static final int NODES = FIRST_LEAF + CODE_LIMIT;

        private final int[] entryCounts = new int[NODES];
        private final int[] codeCounts = new int[NODES];

        static int nodeOf(int digits, int value) {
            int node = 0;
            // The value of a shorter prefix stands in the last places.
            for (int place = CODE_DIGITS - digits; place < CODE_DIGITS; place++) {
                node = child(node, digitAt(value, place));
            }
            return node;
        }

        private static int digitAt(int number, int place) {
            switch (place) {
                case 0:
                    return number / 100 % 10;
                case 1:
                    return number / 10 % 10;
                default:
                    return number % 10;
            }
        }

        private static int child(int node, int digit) {
            return 10 * node + digit + 1;
        }

        int entriesAt(int node) {
            return node >= 0 && node < NODES ? entryCounts[node] : 0;
        }

        int codesAt(int node) {
            return node >= 0 && node < NODES ? codeCounts[node] : 0;
        }

        int branchesAt(int node) {
            int count = 0;
            for (int digit = 0; digit < 10; digit++) {
                if (codesAt(child(node, digit)) > 0) {
                    count++;
                }
            }
            return count;
        }

        int depthReachedBy(int code) {
            int depth = 0;
            int node = 0;
            while (depth < CODE_DIGITS) {
                node = child(node, digitAt(code, depth));
                if (codesAt(node) == 0) {
                    return depth;
                }
                depth++;
            }
            return depth;
        }

        int commonestLeaf() {
            int commonest = NONE;
            int most = 0;
            for (int code = 0; code < CODE_LIMIT; code++) {
                if (entryCounts[FIRST_LEAF + code] > most) {
                    most = entryCounts[FIRST_LEAF + code];
                    commonest = code;
                }
            }
            return commonest;
        }

        void build(Contents contents) {
            Arrays.fill(entryCounts, 0);
            Arrays.fill(codeCounts, 0);
            for (int i = 0; i < contents.entryCount; i++) {
                Entry entry = contents.entries[i];
                for (int j = 0; j < entry.size; j++) {
                    // The codes ascend, so a prefix met before in this entry is one of the code just before.
                    int met = j == 0 ? NONE : commonDigits(entry.codes[j - 1], entry.codes[j]);
                    countCode(entry.codes[j], met);
                }
            }
        }

        private void countCode(int code, int met) {
            boolean codeIsNew = entriesAt(FIRST_LEAF + code) == 0;
            int node = 0;
            for (int depth = 0; depth <= CODE_DIGITS && node < NODES; depth++) {
                if (depth > met) {
                    entryCounts[node]++;
                }
                if (codeIsNew) {
                    codeCounts[node]++;
                }
                node = child(node, digitAt(code, depth));
            }
        }
    }

    /** The results for a prefix in the order of scores. */
    private static final class Ranking {
        final int[] ids = new int[MOST_ENTRIES];
        final int[] scores = new int[MOST_ENTRIES];
        int size = 0;

        void order(Contents contents, int digits, int value) {
            size = 0;
            for (int i = 0; i < contents.entryCount; i++) {
                Entry entry = contents.entries[i];
                if (entry.countWith(digits, value) > 0) {
                    place(entry.id, entry.score(digits, value));
                }
            }
        }

        /** The ids come in ascending order, so one with an equal score goes behind. */
        private void place(int id, int score) {
            if (size >= MOST_ENTRIES) {
                return;
            }
            int rank = size;
            while (rank > 0 && scores[rank - 1] < score) {
                ids[rank] = ids[rank - 1];
                scores[rank] = scores[rank - 1];
                rank--;
            }
            ids[rank] = id;
            scores[rank] = score;
            size++;
        }
    }

    /** The input buffer, and the commands that were read from it. */
    private static final class Program {
        private static final int MOST_NUMBER_DIGITS = 3;

        private final char[] text = new char[BUFFER_ROOM];
        int length = 0;
        private int position = 0;
        private int number = 0;
        private int numberDigits = 0;
        final int[] kinds = new int[MOST_COMMANDS];
        final int[] firsts = new int[MOST_COMMANDS];
        final int[] seconds = new int[MOST_COMMANDS];
        int count = 0;

        int add(char character) {
            if (length < BUFFER_ROOM) {
                text[length] = character;
                length++;
            }
            return length;
        }

        void clear() {
            length = 0;
        }

        /** Reads the whole buffer; answers the error position, or NONE. */
        int read() {
            position = 0;
            count = 0;
            while (count < MOST_COMMANDS) {
                if (!readCommand()) {
                    return position;
                }
                count++;
                if (position >= length) {
                    return NONE;
                }
                if (!stands(';')) {
                    return position;
                }
                position++;
            }
            return position;
        }

        private boolean readCommand() {
            int kind = readWord();
            if (kind == NONE) {
                return false;
            }
            kinds[count] = kind;
            firsts[count] = 0;
            seconds[count] = 0;
            return readArguments(kind);
        }

        /** No word begins another one, so the word that stands here whole is the only one that can. */
        private int readWord() {
            int longest = 0;
            for (int kind = 0; kind < KINDS; kind++) {
                String word = wordOf(kind);
                int matched = matchedLetters(word);
                if (matched == word.length()) {
                    position += matched;
                    return kind;
                }
                longest = Math.max(longest, matched);
            }
            position += longest;
            return NONE;
        }

        private int matchedLetters(String word) {
            int matched = 0;
            while (matched < word.length() && position + matched < length
                    && word.charAt(matched) == text[position + matched]) {
                matched++;
            }
            return matched;
        }

        private static String wordOf(int kind) {
            switch (kind) {
                case ADD_ENTRY:
                    return "entry";
                case ADD_CODE:
                    return "code";
                case REMOVE_CODE:
                    return "uncode";
                case REMOVE_ENTRY:
                    return "drop";
                case TOUCH:
                    return "touch";
                case MERGE:
                    return "merge";
                case START_SEGMENT:
                    return "segment";
                case JOIN_SEGMENTS:
                    return "join";
                case SEARCH:
                    return "find";
                default:
                    return "days";
            }
        }

        private boolean readArguments(int kind) {
            switch (kind) {
                case START_SEGMENT:
                    return true;
                case ADD_ENTRY:
                case JOIN_SEGMENTS:
                    return readFirst(1);
                case ADD_CODE:
                case REMOVE_CODE:
                case MERGE:
                    return readFirst(MOST_NUMBER_DIGITS) && readSecond();
                case SEARCH:
                    return !stands(' ') || readPrefix();
                default:
                    return readFirst(MOST_NUMBER_DIGITS);
            }
        }

        private boolean readFirst(int mostDigits) {
            if (!readNumber(mostDigits)) {
                return false;
            }
            firsts[count] = number;
            return true;
        }

        private boolean readSecond() {
            if (!readNumber(MOST_NUMBER_DIGITS)) {
                return false;
            }
            seconds[count] = number;
            return true;
        }

        private boolean readPrefix() {
            if (!readNumber(MOST_NUMBER_DIGITS)) {
                return false;
            }
            firsts[count] = numberDigits;
            seconds[count] = number;
            return true;
        }

        /** Reads a space and a number. */
        private boolean readNumber(int mostDigits) {
            number = 0;
            numberDigits = 0;
            if (!stands(' ')) {
                return false;
            }
            position++;
            while (numberDigits < mostDigits && digitStands()) {
                number = 10 * number + (text[position] - '0');
                numberDigits++;
                position++;
            }
            return numberDigits > 0;
        }

        private boolean stands(char character) {
            return position < length && text[position] == character;
        }

        private boolean digitStands() {
            return position < length && text[position] >= '0' && text[position] <= '9';
        }
    }

    /** The formatted line. */
    private static final class Line {
        private static final int MOST_DIGITS = 10;

        final char[] chars = new char[LINE_ROOM];
        private final char[] digits = new char[MOST_DIGITS];
        int length = 0;

        void clear() {
            length = 0;
        }

        void put(char character) {
            if (length < LINE_ROOM) {
                chars[length] = character;
                length++;
            }
        }

        void putField(char name, int value) {
            put(name);
            putNumber(value);
        }

        void putNumber(int value) {
            if (value < 0) {
                put('-');
            }
            int rest = value;
            int count = 0;
            do {
                digits[count] = digitOf(rest);
                rest /= 10;
                count++;
            } while (rest != 0 && count < MOST_DIGITS);
            for (int i = count - 1; i >= 0; i--) {
                put(digits[i]);
            }
        }

        void putCode(int code) {
            for (int cut = CODE_DIGITS - 1; cut >= 0; cut--) {
                put(digitOf(withoutEnd(code, cut)));
            }
        }

        private static char digitOf(int number) {
            return (char) ('0' + Math.abs(number % 10));
        }
    }
}
