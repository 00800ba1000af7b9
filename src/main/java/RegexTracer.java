import java.util.NoSuchElementException;

/** A regular expression engine for short texts, with groups and greedy repeats. */
public final class RegexTracer {

    private static final int PATTERN_LIMIT = 4;
    private static final int PATTERN_ROOM = 30;
    private static final int GROUP_LIMIT = 5;
    private static final int TEXT_ROOM = 40;
    private static final int FIRST_CODE = 32;
    private static final int LAST_CODE = 126;
    private static final int UNDO_LIMIT = 8;

    /** The text, with a pair of marks at each of its 41 positions. */
    private static final int LINE_ROOM = 122;

    /** Two steps for each character of a pattern and one for its end, rounded up to the bits of a long. */
    private static final int STEP_ROOM = 64;

    /** Each character of a pattern leaves at most one choice waiting at each position; the first choice is one more. */
    private static final int CHOICE_ROOM = PATTERN_ROOM * (TEXT_ROOM + 1) + 1;

    /** A step or a slot, and a position, share one number. */
    private static final int SHARE_BITS = 6;
    private static final int SHARE_MASK = 63;

    /** Numbers from here on restore a slot instead of naming a step. */
    private static final int RESTORING = STEP_ROOM * STEP_ROOM;

    private static final int SLOT_COUNT = 2 * (GROUP_LIMIT + 1);
    private static final int NONE = -1;
    private static final int UNBOUNDED = 1000000;

    /** No search comes near it; it only shows that each loop ends. */
    private static final int MANY_TURNS = 1000000;

    private static final int TAKE_ONE = 1;
    private static final int TAKE_ANY = 2;
    private static final int TAKE_LISTED = 3;
    private static final int TAKE_UNLISTED = 4;
    private static final int FORK = 5;
    private static final int JUMP = 6;
    private static final int NOTE = 7;
    private static final int ACCEPT = 8;

    private static final int FAULT_REPEAT = 1;
    private static final int FAULT_CLOSING = 2;
    private static final int FAULT_OPENING = 3;
    private static final int FAULT_OTHER = 4;
    private static final int FAULT_END = 5;

    private final Row patternBuffer = new Row(PATTERN_ROOM);
    private final Row textBuffer = new Row(TEXT_ROOM);
    private final Content content = new Content();
    private final Content snapshot = new Content();
    private boolean snapshotSaved = false;
    private final History history = new History();

    private int faultAt = NONE;
    private int faultSort = NONE;
    private int faultLevel = NONE;

    private final Backtracker backtracker = new Backtracker();
    private final Threads threads = new Threads();
    private final Row matchStarts = new Row(TEXT_ROOM + 1);
    private final Row matchEnds = new Row(TEXT_ROOM + 1);
    private final Row counts = new Row(PATTERN_LIMIT);
    private final Row draft = new Row(TEXT_ROOM);
    private final Row line = new Row(LINE_ROOM);

    /** Creates an engine without patterns, with an empty text. */
    public RegexTracer() {
    }

    // ---- patterns

    /** Appends a character to the pattern buffer and returns the length of the buffer. */
    public int typePattern(char character) throws IllegalStateException {
        if (patternBuffer.isFull()) {
            throw new IllegalStateException("the pattern buffer is full");
        }
        patternBuffer.add(character);
        return patternBuffer.size();
    }

    /** Compiles the pattern buffer to a new pattern and returns its index; the buffer is empty afterwards. */
    public int compile() throws IllegalStateException, IllegalArgumentException {
        if (content.isFull()) {
            patternBuffer.clear();
            throw new IllegalStateException("there are 4 patterns");
        }
        PatternReader reader = new PatternReader(patternBuffer);
        int fault = reader.read();
        if (fault != NONE) {
            faultAt = fault;
            faultSort = sortOfFault(patternBuffer, fault);
            faultLevel = reader.depth();
            patternBuffer.clear();
            throw new IllegalArgumentException("the pattern is not valid");
        }
        history.remember(content);
        content.addPattern(reader.made());
        patternBuffer.clear();
        return content.size() - 1;
    }

    /** Removes a pattern and returns the number of patterns. */
    public int removePattern(int pattern) throws IndexOutOfBoundsException {
        existing(pattern);
        history.remember(content);
        content.dropPattern(pattern);
        return content.size();
    }

    /** Returns the number of patterns. */
    public int patternCount() {
        return content.size();
    }

    /** Returns the number of characters of a pattern. */
    public int patternLength(int pattern) throws IndexOutOfBoundsException {
        return existing(pattern).characters.size();
    }

    /** Returns a character of a pattern. */
    public char patternCharacter(int pattern, int index) throws IndexOutOfBoundsException {
        return characterOf(existing(pattern).characters, index);
    }

    /** Returns the number of groups of a pattern. */
    public int groupCount(int pattern) throws IndexOutOfBoundsException {
        return existing(pattern).groups;
    }

    /** Returns the length of the shortest text that a pattern can match. */
    public int minimumLength(int pattern) throws IndexOutOfBoundsException {
        return existing(pattern).shortest;
    }

    /** Returns the length of the longest text that a pattern can match. */
    public int maximumLength(int pattern) throws IndexOutOfBoundsException, NoSuchElementException {
        int longest = existing(pattern).longest;
        if (longest >= UNBOUNDED) {
            throw new NoSuchElementException("there is no longest text");
        }
        return longest;
    }

    /** Returns the fault position of the latest pattern that was not valid. */
    public int faultPosition() throws NoSuchElementException {
        checkFault();
        return faultAt;
    }

    /** Returns the kind of the fault of the latest pattern that was not valid. */
    public int faultKind() throws NoSuchElementException {
        checkFault();
        return faultSort;
    }

    /** Returns the number of groups that are open at the latest fault. */
    public int faultDepth() throws NoSuchElementException {
        checkFault();
        return faultLevel;
    }

    // ---- the text

    /** Appends a character to the text buffer and returns the length of the buffer. */
    public int typeText(char character) throws IllegalArgumentException, IllegalStateException {
        checkCode(character);
        if (textBuffer.isFull()) {
            throw new IllegalStateException("the text buffer is full");
        }
        textBuffer.add(character);
        return textBuffer.size();
    }

    /** Replaces the text by the contents of the text buffer and returns its length. */
    public int setText() {
        history.remember(content);
        content.text.copyFrom(textBuffer);
        textBuffer.clear();
        return content.text.size();
    }

    /** Inserts the contents of the text buffer and returns the length of the text. */
    public int insertText(int position) throws IndexOutOfBoundsException, IllegalStateException {
        Row text = content.text;
        if (position < 0 || position > text.size()) {
            textBuffer.clear();
            throw new IndexOutOfBoundsException("no such position");
        }
        if (text.size() + textBuffer.size() > TEXT_ROOM) {
            textBuffer.clear();
            throw new IllegalStateException("the text would be too long");
        }
        history.remember(content);
        for (int index = 0; index < textBuffer.size(); index++) {
            text.insert(position + index, textBuffer.at(index));
        }
        textBuffer.clear();
        return text.size();
    }

    /** Deletes the characters from one position up to another one and returns the length of the text. */
    public int deleteText(int from, int to) throws IndexOutOfBoundsException {
        if (from < 0 || from > to || to > content.text.size()) {
            throw new IndexOutOfBoundsException("no such positions");
        }
        history.remember(content);
        content.text.cut(from, to);
        return content.text.size();
    }

    /** Replaces each match of a pattern by a character and returns the number of replacements. */
    public int replaceMatches(int pattern, char character)
            throws IndexOutOfBoundsException, IllegalArgumentException, IllegalStateException {
        Pattern sought = existing(pattern);
        checkCode(character);
        listMatches(sought);
        int count = matchStarts.size();
        if (content.text.size() - totalLength() + count > TEXT_ROOM) {
            throw new IllegalStateException("the text would be too long");
        }
        history.remember(content);
        draftReplacement(character);
        content.text.copyFrom(draft);
        return count;
    }

    /** Returns the length of the text. */
    public int textLength() {
        return content.text.size();
    }

    /** Returns a character of the text. */
    public char textCharacter(int index) throws IndexOutOfBoundsException {
        return characterOf(content.text, index);
    }

    // ---- matching

    /** Returns whether a pattern can match the whole text, found by backtracking. */
    public boolean matchesAll(int pattern) throws IndexOutOfBoundsException {
        return backtracker.spansText(existing(pattern), content.text);
    }

    /** Returns the same as matchesAll, found by following all alternatives at once. */
    public boolean matchesAllByThreads(int pattern) throws IndexOutOfBoundsException {
        return threads.spansText(existing(pattern), content.text);
    }

    /** Returns the start of the match found from a position on. */
    public int find(int pattern, int from) throws IndexOutOfBoundsException, NoSuchElementException {
        seek(pattern, from);
        return backtracker.start();
    }

    /** Returns the end of the match found from a position on. */
    public int findEnd(int pattern, int from) throws IndexOutOfBoundsException, NoSuchElementException {
        seek(pattern, from);
        return backtracker.end();
    }

    /** Returns the same start as find, found by following all alternatives at once. */
    public int findByThreads(int pattern, int from) throws IndexOutOfBoundsException, NoSuchElementException {
        seekByThreads(pattern, from);
        return threads.start();
    }

    /** Returns the same end as findEnd, found by following all alternatives at once. */
    public int findEndByThreads(int pattern, int from) throws IndexOutOfBoundsException, NoSuchElementException {
        seekByThreads(pattern, from);
        return threads.end();
    }

    /** Returns whether a group is set in the match found from a position on. */
    public boolean isGroupSet(int pattern, int from, int group)
            throws IndexOutOfBoundsException, NoSuchElementException {
        seekGroup(pattern, from, group);
        return backtracker.hasGroup(group);
    }

    /** Returns the start of a group in the match found from a position on. */
    public int groupStart(int pattern, int from, int group)
            throws IndexOutOfBoundsException, NoSuchElementException {
        seekGroup(pattern, from, group);
        checkGroupSet(group);
        return backtracker.startOfGroup(group);
    }

    /** Returns the end of a group in the match found from a position on. */
    public int groupEnd(int pattern, int from, int group)
            throws IndexOutOfBoundsException, NoSuchElementException {
        seekGroup(pattern, from, group);
        checkGroupSet(group);
        return backtracker.endOfGroup(group);
    }

    // ---- the list of matches

    /** Returns the number of matches of a pattern. */
    public int matchCount(int pattern) throws IndexOutOfBoundsException {
        listMatches(existing(pattern));
        return matchStarts.size();
    }

    /** Returns the start of a match. */
    public int matchStart(int pattern, int match) throws IndexOutOfBoundsException, NoSuchElementException {
        listMatches(existing(pattern));
        checkMatch(match);
        return matchStarts.at(match);
    }

    /** Returns the length of a match. */
    public int matchLength(int pattern, int match) throws IndexOutOfBoundsException, NoSuchElementException {
        listMatches(existing(pattern));
        checkMatch(match);
        return lengthOf(match);
    }

    /** Returns the number of the longest match; of several, the first one. */
    public int longestMatch(int pattern) throws IndexOutOfBoundsException, NoSuchElementException {
        listMatches(existing(pattern));
        checkMatch(0);
        int longest = 0;
        for (int match = 1; match < matchStarts.size(); match++) {
            if (lengthOf(match) > lengthOf(longest)) {
                longest = match;
            }
        }
        return longest;
    }

    /** Returns the number of characters of the text that belong to matches. */
    public int matchedCharacters(int pattern) throws IndexOutOfBoundsException {
        listMatches(existing(pattern));
        return totalLength();
    }

    /** Returns the pattern at a rank by the number of matches, in descending order. */
    public int patternByMatches(int rank) throws NoSuchElementException {
        counts.clear();
        for (int index = 0; index < content.size(); index++) {
            listMatches(existing(index));
            counts.add(matchStarts.size());
        }
        for (int index = 0; index < counts.size(); index++) {
            if (rankOf(index) == rank) {
                return index;
            }
        }
        throw new NoSuchElementException("no such rank");
    }

    /** Returns the mean length of the matches of a pattern. */
    public double meanMatchLength(int pattern) throws IndexOutOfBoundsException, ArithmeticException {
        listMatches(existing(pattern));
        int count = matchStarts.size();
        if (count == 0) {
            throw new ArithmeticException("there are no matches");
        }
        return (double) totalLength() / (double) count;
    }

    /** Returns the share of matched characters among the characters of the text. */
    public float coverage(int pattern) throws IndexOutOfBoundsException, ArithmeticException {
        Pattern sought = existing(pattern);
        int length = content.text.size();
        if (length == 0) {
            throw new ArithmeticException("the text is empty");
        }
        listMatches(sought);
        return (float) totalLength() / (float) length;
    }

    /** Returns whether both searches agree for all patterns and all positions. */
    public boolean isConsistent() {
        for (int index = 0; index < content.size(); index++) {
            Pattern pattern = existing(index);
            for (int from = 0; from <= content.text.size(); from++) {
                if (!searchesAgree(pattern, from)) {
                    return false;
                }
            }
        }
        return true;
    }

    // ---- output lines

    /** Writes the match found from a position on as the output line and returns its length. */
    public int writeMatch(int pattern, int from) throws IndexOutOfBoundsException, NoSuchElementException {
        seek(pattern, from);
        line.clear();
        writeSpan(backtracker.start(), backtracker.end());
        int groups = existing(pattern).groups;
        for (int group = 1; group <= groups; group++) {
            line.add(';');
            writeNumber(group);
            line.add(':');
            if (backtracker.hasGroup(group)) {
                writeSpan(backtracker.startOfGroup(group), backtracker.endOfGroup(group));
            }
        }
        return line.size();
    }

    /** Writes the text with its matches marked as the output line and returns its length. */
    public int writeMarked(int pattern) throws IndexOutOfBoundsException {
        listMatches(existing(pattern));
        line.clear();
        int written = 0;
        for (int match = 0; match < matchStarts.size(); match++) {
            int start = matchStarts.at(match);
            int end = matchEnds.at(match);
            line.addPart(content.text, written, start);
            line.add('<');
            line.addPart(content.text, start, end);
            line.add('>');
            written = end;
        }
        line.addPart(content.text, written, content.text.size());
        return line.size();
    }

    /** Returns a character of the output line. */
    public char lineCharacter(int index) throws IndexOutOfBoundsException {
        return characterOf(line, index);
    }

    // ---- undo and snapshots

    /** Undoes the latest change and returns the number of changes that can be undone. */
    public int undo() throws IllegalStateException {
        if (history.size() == 0) {
            throw new IllegalStateException("there is nothing to undo");
        }
        history.takeBack(content);
        return history.size();
    }

    /** Returns the number of changes that can be undone. */
    public int undoCount() {
        return history.size();
    }

    /** Saves a snapshot of the patterns and the text and returns the number of patterns. */
    public int saveSnapshot() {
        snapshot.copyFrom(content);
        snapshotSaved = true;
        return content.size();
    }

    /** Restores the snapshot and returns the number of patterns. */
    public int restoreSnapshot() throws IllegalStateException {
        if (!snapshotSaved) {
            throw new IllegalStateException("there is no snapshot");
        }
        content.copyFrom(snapshot);
        history.clear();
        return content.size();
    }

    // ---- checks

    private Pattern existing(int pattern) throws IndexOutOfBoundsException {
        Pattern found = content.patternAt(pattern);
        if (found == null) {
            throw new IndexOutOfBoundsException("no such pattern");
        }
        return found;
    }

    private static char characterOf(Row row, int index) throws IndexOutOfBoundsException {
        if (!row.holds(index)) {
            throw new IndexOutOfBoundsException("no such character");
        }
        return (char) row.at(index);
    }

    private void checkFault() throws NoSuchElementException {
        if (faultAt == NONE) {
            throw new NoSuchElementException("no pattern was invalid");
        }
    }

    private static void checkCode(char character) throws IllegalArgumentException {
        if (character < FIRST_CODE || character > LAST_CODE) {
            throw new IllegalArgumentException("not a character of a text");
        }
    }

    private void checkMatch(int match) throws NoSuchElementException {
        if (!matchStarts.holds(match)) {
            throw new NoSuchElementException("no such match");
        }
    }

    private static int sortOfFault(Row characters, int position) {
        if (position >= characters.size()) {
            return FAULT_END;
        }
        switch (characters.at(position)) {
            case '*':
            case '+':
            case '?':
                return FAULT_REPEAT;
            case ')':
                return FAULT_CLOSING;
            case '(':
                return FAULT_OPENING;
            default:
                return FAULT_OTHER;
        }
    }

    // ---- searches

    private Pattern soughtFrom(int pattern, int from) throws IndexOutOfBoundsException {
        Pattern sought = existing(pattern);
        if (from < 0 || from > content.text.size()) {
            throw new IndexOutOfBoundsException("no such position");
        }
        return sought;
    }

    private void seek(int pattern, int from) throws IndexOutOfBoundsException, NoSuchElementException {
        if (!backtracker.search(soughtFrom(pattern, from), content.text, from)) {
            throw new NoSuchElementException("there is no match");
        }
    }

    private void seekByThreads(int pattern, int from) throws IndexOutOfBoundsException, NoSuchElementException {
        if (!threads.search(soughtFrom(pattern, from), content.text, from)) {
            throw new NoSuchElementException("there is no match");
        }
    }

    private void seekGroup(int pattern, int from, int group)
            throws IndexOutOfBoundsException, NoSuchElementException {
        Pattern sought = soughtFrom(pattern, from);
        if (group < 1 || group > sought.groups) {
            throw new IndexOutOfBoundsException("no such group");
        }
        if (!backtracker.search(sought, content.text, from)) {
            throw new NoSuchElementException("there is no match");
        }
    }

    private void checkGroupSet(int group) throws NoSuchElementException {
        if (!backtracker.hasGroup(group)) {
            throw new NoSuchElementException("the group is not set");
        }
    }

    private boolean searchesAgree(Pattern pattern, int from) {
        boolean found = backtracker.search(pattern, content.text, from);
        boolean foundByThreads = threads.search(pattern, content.text, from);
        if (!found || !foundByThreads) {
            return found == foundByThreads;
        }
        return backtracker.start() == threads.start() && backtracker.end() == threads.end();
    }

    private void listMatches(Pattern pattern) {
        matchStarts.clear();
        matchEnds.clear();
        int from = 0;
        for (int match = 0; match <= TEXT_ROOM && from <= content.text.size(); match++) {
            if (!backtracker.search(pattern, content.text, from)) {
                return;
            }
            int start = backtracker.start();
            int end = backtracker.end();
            matchStarts.add(start);
            matchEnds.add(end);
            from = end > start ? end : end + 1;
        }
    }

    private int lengthOf(int match) {
        return matchEnds.at(match) - matchStarts.at(match);
    }

    private int totalLength() {
        int total = 0;
        for (int match = 0; match < matchStarts.size(); match++) {
            total += lengthOf(match);
        }
        return total;
    }

    private int rankOf(int pattern) {
        int own = counts.at(pattern);
        int before = 0;
        for (int other = 0; other < counts.size(); other++) {
            int count = counts.at(other);
            if (count > own || (count == own && other < pattern)) {
                before++;
            }
        }
        return before;
    }

    // ---- writing

    private void draftReplacement(char character) {
        draft.clear();
        int written = 0;
        for (int match = 0; match < matchStarts.size(); match++) {
            draft.addPart(content.text, written, matchStarts.at(match));
            draft.add(character);
            written = matchEnds.at(match);
        }
        draft.addPart(content.text, written, content.text.size());
    }

    private void writeSpan(int start, int end) {
        writeNumber(start);
        line.add('-');
        writeNumber(end);
    }

    private void writeNumber(int number) {
        if (number >= 10) {
            line.add('0' + number / 10);
        }
        line.add('0' + number % 10);
    }

    /** A list of numbers with a fixed room; what would leave the room is refused. */
    private static final class Row {
        private final int[] cells;
        private int size = 0;

        Row(int room) {
            cells = new int[room > 0 ? room : 0];
        }

        int size() {
            return size;
        }

        boolean isFull() {
            return size >= cells.length;
        }

        boolean holds(int index) {
            return index >= 0 && index < size;
        }

        int at(int index) {
            if (index < 0 || index >= size || index >= cells.length) {
                return 0;
            }
            return cells[index];
        }

        void put(int index, int value) {
            if (index >= 0 && index < size && index < cells.length) {
                cells[index] = value;
            }
        }

        void add(int value) {
            int end = size;
            if (end >= 0 && end < cells.length) {
                cells[end] = value;
                size = end + 1;
            }
        }

        int removeLast() {
            if (size <= 0) {
                return 0;
            }
            int last = at(size - 1);
            size--;
            return last;
        }

        void insert(int index, int value) {
            if (index < 0 || index > size || isFull()) {
                return;
            }
            add(value);
            for (int moved = size - 1; moved > index; moved--) {
                put(moved, at(moved - 1));
            }
            put(index, value);
        }

        void cut(int from, int to) {
            if (from < 0 || from > to || to > size) {
                return;
            }
            for (int moved = to; moved < size; moved++) {
                put(from + moved - to, at(moved));
            }
            size -= to - from;
        }

        void clear() {
            size = 0;
        }

        void addPart(Row other, int from, int to) {
            for (int index = from; index < to && index < other.size; index++) {
                add(other.at(index));
            }
        }

        void copyFrom(Row other) {
            clear();
            addPart(other, 0, other.size);
        }
    }

    /**
     * A valid pattern as a list of steps. Forks and jumps say how far to go, not where to, so that
     * a finished part keeps its meaning when a step is put before it. No pattern changes once it
     * is made, so that it may stand in several contents at once.
     */
    private static final class Pattern {
        private final Row characters = new Row(PATTERN_ROOM);
        private final Row kinds = new Row(STEP_ROOM);
        private final Row firsts = new Row(STEP_ROOM);
        private final Row seconds = new Row(STEP_ROOM);
        private int groups = 0;
        private int shortest = 0;
        private int longest = 0;

        int stepCount() {
            return kinds.size();
        }

        int kindAt(int step) {
            return kinds.at(step);
        }

        int firstAfter(int step) {
            return step + firsts.at(step);
        }

        int secondAfter(int step) {
            return step + seconds.at(step);
        }

        int slotAt(int step) {
            return firsts.at(step);
        }

        void addStep(int kind, int first, int second) {
            kinds.add(kind);
            firsts.add(first);
            seconds.add(second);
        }

        void insertStep(int step, int kind, int first, int second) {
            kinds.insert(step, kind);
            firsts.insert(step, first);
            seconds.insert(step, second);
        }

        /** Lets the jumps from a step on that lead nowhere yet lead to the end of the list. */
        void landJumps(int from) {
            for (int step = from; step < kinds.size(); step++) {
                if (kinds.at(step) == JUMP && firsts.at(step) == 0) {
                    firsts.put(step, kinds.size() - step);
                }
            }
        }

        boolean takes(int step, int character) {
            int kind = kinds.at(step);
            int first = firsts.at(step);
            if (kind == TAKE_ONE) {
                return first == character;
            }
            if (kind != TAKE_LISTED && kind != TAKE_UNLISTED) {
                return kind == TAKE_ANY;
            }
            boolean listed = false;
            int end = seconds.at(step);
            for (int index = first; index < end && !listed; index++) {
                listed = characters.at(index) == character;
            }
            return listed == (kind == TAKE_LISTED);
        }
    }

    /** What the reader knows of a pattern, or of a group, whose end it has not read. */
    private static final class Level {
        private final Level outer;
        private final int group;
        private final int firstStep;
        private int branchStep;
        private boolean atomWaits = false;
        private int atomStep = 0;
        private int atomShortest = 0;
        private int atomLongest = 0;
        private int branchShortest = 0;
        private int branchLongest = 0;
        private int shortest = UNBOUNDED;
        private int longest = 0;

        Level(Level outer, int group, int firstStep) {
            this.outer = outer;
            this.group = group;
            this.firstStep = firstStep;
            this.branchStep = firstStep;
        }

        void startAtom(int step, int itsShortest, int itsLongest) {
            settleAtom();
            atomWaits = true;
            atomStep = step;
            atomShortest = itsShortest;
            atomLongest = itsLongest;
        }

        void repeat(boolean mayBeMissing, boolean mayGoOn) {
            if (mayBeMissing) {
                atomShortest = 0;
            }
            if (mayGoOn) {
                atomLongest = UNBOUNDED;
            }
            settleAtom();
        }

        /** After this no repeat can follow the atom. */
        void settleAtom() {
            if (atomWaits) {
                branchShortest = branchShortest + atomShortest;
                branchLongest = Math.min(UNBOUNDED, branchLongest + atomLongest);
                atomWaits = false;
            }
        }

        void endBranch(int nextStep) {
            settleAtom();
            shortest = Math.min(shortest, branchShortest);
            longest = Math.max(longest, branchLongest);
            branchShortest = 0;
            branchLongest = 0;
            branchStep = nextStep;
        }
    }

    /** Reads typed characters from left to right and makes the steps of a pattern of them. */
    private static final class PatternReader {
        private static final int OUTSIDE = 0;
        private static final int OPENED = 1;
        private static final int NEGATED = 2;
        private static final int LISTING = 3;

        private final Row source;
        private final Pattern made = new Pattern();
        private Level level = new Level(null, 0, 0);
        private int depth = 0;
        private int brackets = OUTSIDE;
        private boolean listed = true;
        private int listStart = 0;

        PatternReader(Row source) {
            this.source = source;
        }

        Pattern made() {
            return made;
        }

        int depth() {
            return depth;
        }

        /** Returns the fault position, or NONE if the pattern is valid. */
        int read() {
            for (int index = 0; index < source.size(); index++) {
                if (!accepts(source.at(index), index)) {
                    return index;
                }
            }
            if (brackets != OUTSIDE || depth > 0) {
                return source.size();
            }
            finish();
            return NONE;
        }

        private void finish() {
            level.endBranch(made.stepCount());
            made.landJumps(level.firstStep);
            made.addStep(ACCEPT, 0, 0);
            made.shortest = level.shortest;
            made.longest = level.longest;
            made.characters.copyFrom(source);
        }

        private boolean accepts(int character, int index) {
            if (brackets != OUTSIDE) {
                return acceptsInBrackets(character, index);
            }
            if (isCharacter(character)) {
                addAtom(TAKE_ONE, character, 0);
                return true;
            }
            switch (character) {
                case '.':
                    addAtom(TAKE_ANY, 0, 0);
                    return true;
                case '[':
                    openBrackets(index);
                    return true;
                case '(':
                    return opensGroup();
                case ')':
                    return closesGroup();
                case '|':
                    startBranch();
                    return true;
                case '*':
                case '+':
                case '?':
                    return repeatsAtom(character);
                default:
                    return false;
            }
        }

        private static boolean isCharacter(int character) {
            return (character >= 'a' && character <= 'z')
                    || (character >= '0' && character <= '9')
                    || character == ' ';
        }

        private void addAtom(int kind, int first, int second) {
            level.startAtom(made.stepCount(), 1, 1);
            made.addStep(kind, first, second);
        }

        private void openBrackets(int index) {
            brackets = OPENED;
            listed = true;
            listStart = index + 1;
        }

        private boolean acceptsInBrackets(int character, int index) {
            if (isCharacter(character)) {
                brackets = LISTING;
                return true;
            }
            if (character == '^' && brackets == OPENED) {
                brackets = NEGATED;
                listed = false;
                listStart = index + 1;
                return true;
            }
            if (character == ']' && brackets == LISTING) {
                brackets = OUTSIDE;
                addAtom(listed ? TAKE_LISTED : TAKE_UNLISTED, listStart, index);
                return true;
            }
            return false;
        }

        private boolean opensGroup() {
            if (made.groups >= GROUP_LIMIT) {
                return false;
            }
            made.groups++;
            depth++;
            made.addStep(NOTE, 2 * made.groups, 0);
            level = new Level(level, made.groups, made.stepCount());
            return true;
        }

        private boolean closesGroup() {
            Level closed = level;
            Level outer = closed.outer;
            if (outer == null) {
                return false;
            }
            closed.endBranch(made.stepCount());
            made.landJumps(closed.firstStep);
            made.addStep(NOTE, 2 * closed.group + 1, 0);
            depth--;
            level = outer;
            level.startAtom(closed.firstStep - 1, closed.shortest, closed.longest);
            return true;
        }

        /** The branch that ends gets a fork before it and an open jump behind it. */
        private void startBranch() {
            int begin = level.branchStep;
            made.insertStep(begin, FORK, 1, made.stepCount() + 2 - begin);
            made.addStep(JUMP, 0, 0);
            level.endBranch(made.stepCount());
        }

        private boolean repeatsAtom(int sign) {
            if (!level.atomWaits || (sign != '?' && level.atomShortest == 0)) {
                return false;
            }
            int begin = level.atomStep;
            int end = made.stepCount();
            if (sign == '+') {
                made.addStep(FORK, begin - end, 1);
            } else if (sign == '*') {
                made.insertStep(begin, FORK, 1, end + 2 - begin);
                made.addStep(JUMP, begin - end - 1, 0);
            } else {
                made.insertStep(begin, FORK, 1, end + 1 - begin);
            }
            level.repeat(sign != '+', sign != '?');
            return true;
        }
    }

    /** Follows one way after another, the preferred one first. */
    private static final class Backtracker {
        private final long[] tried = new long[TEXT_ROOM + 1];
        private final Row choices = new Row(CHOICE_ROOM);
        private final Row slots = new Row(SLOT_COUNT);

        int start() {
            return slots.at(0);
        }

        int end() {
            return slots.at(1);
        }

        boolean hasGroup(int group) {
            return slots.at(2 * group + 1) != NONE;
        }

        int startOfGroup(int group) {
            return slots.at(2 * group);
        }

        int endOfGroup(int group) {
            return slots.at(2 * group + 1);
        }

        /** What failed from one start fails from every later one, so it is not tried again. */
        boolean search(Pattern pattern, Row text, int from) {
            forgetTried();
            for (int start = from; start <= text.size(); start++) {
                if (matchesAt(pattern, text, start, false)) {
                    return true;
                }
            }
            return false;
        }

        boolean spansText(Pattern pattern, Row text) {
            forgetTried();
            return matchesAt(pattern, text, 0, true);
        }

        private boolean matchesAt(Pattern pattern, Row text, int start, boolean whole) {
            slots.clear();
            for (int slot = 0; slot < SLOT_COUNT; slot++) {
                slots.add(NONE);
            }
            slots.put(0, start);
            choices.clear();
            choices.add(start);
            for (int turn = 0; turn < MANY_TURNS && choices.size() > 0; turn++) {
                int choice = choices.removeLast();
                int number = (choice >> SHARE_BITS) & SHARE_MASK;
                int position = choice & SHARE_MASK;
                if (choice >= RESTORING) {
                    slots.put(number, position - 1);
                } else if (isNew(number, position) && accepts(pattern, text, number, position, whole)) {
                    slots.put(1, position);
                    return true;
                }
            }
            return false;
        }

        private boolean accepts(Pattern pattern, Row text, int step, int position, boolean whole) {
            switch (pattern.kindAt(step)) {
                case ACCEPT:
                    return !whole || position == text.size();
                case FORK:
                    choose(pattern.secondAfter(step), position);
                    choose(pattern.firstAfter(step), position);
                    return false;
                case JUMP:
                    choose(pattern.firstAfter(step), position);
                    return false;
                case NOTE:
                    note(pattern.slotAt(step), position);
                    choose(step + 1, position);
                    return false;
                default:
                    if (position < text.size() && pattern.takes(step, text.at(position))) {
                        choose(step + 1, position + 1);
                    }
                    return false;
            }
        }

        private void choose(int step, int position) {
            choices.add((step << SHARE_BITS) + position);
        }

        /** The old position comes back when all ways that need the new one have failed. */
        private void note(int slot, int position) {
            int old = slots.at(slot) + 1;
            choices.add(RESTORING + (slot << SHARE_BITS) + old);
            slots.put(slot, position);
        }

        private void forgetTried() {
            for (int position = 0; position < tried.length; position++) {
                tried[position] = 0L;
            }
        }

        private boolean isNew(int step, int position) {
            if (position < 0 || position >= tried.length) {
                return false;
            }
            long mark = 1L << step;
            boolean fresh = (tried[position] & mark) == 0L;
            tried[position] = tried[position] | mark;
            return fresh;
        }
    }

    /** Follows all ways at once, a character at a time; the preferred ones stand first. */
    private static final class Threads {
        private final Row running = new Row(STEP_ROOM);
        private final Row coming = new Row(STEP_ROOM);
        private final Row waiting = new Row(2 * STEP_ROOM);
        private long reached = 0L;
        private int start = NONE;
        private int end = NONE;

        int start() {
            return start;
        }

        int end() {
            return end;
        }

        boolean search(Pattern pattern, Row text, int from) {
            reset();
            for (int position = from; position <= text.size(); position++) {
                if (end == NONE) {
                    spread(pattern, 0, position);
                }
                advance(pattern, text, position, false);
            }
            return end != NONE;
        }

        boolean spansText(Pattern pattern, Row text) {
            reset();
            spread(pattern, 0, 0);
            for (int position = 0; position <= text.size(); position++) {
                advance(pattern, text, position, true);
            }
            return end != NONE;
        }

        private void reset() {
            coming.clear();
            reached = 0L;
            start = NONE;
            end = NONE;
        }

        /** A thread that ends the match drops those behind it: they are less preferred. */
        private void advance(Pattern pattern, Row text, int position, boolean whole) {
            running.copyFrom(coming);
            coming.clear();
            reached = 0L;
            boolean inText = position < text.size();
            int character = text.at(position);
            for (int thread = 0; thread < running.size(); thread++) {
                int step = running.at(thread) >> SHARE_BITS;
                int origin = running.at(thread) & SHARE_MASK;
                if (pattern.kindAt(step) == ACCEPT) {
                    if (!whole || !inText) {
                        start = origin;
                        end = position;
                        return;
                    }
                } else if (inText && pattern.takes(step, character)) {
                    spread(pattern, step + 1, origin);
                }
            }
        }

        /** Adds a thread for each step that takes a character or ends the match and is not reached yet. */
        private void spread(Pattern pattern, int first, int origin) {
            waiting.clear();
            waiting.add(first);
            for (int turn = 0; turn < MANY_TURNS && waiting.size() > 0; turn++) {
                int step = waiting.removeLast();
                long mark = 1L << step;
                if ((reached & mark) != 0L) {
                    continue;
                }
                reached = reached | mark;
                switch (pattern.kindAt(step)) {
                    case FORK:
                        waiting.add(pattern.secondAfter(step));
                        waiting.add(pattern.firstAfter(step));
                        break;
                    case JUMP:
                        waiting.add(pattern.firstAfter(step));
                        break;
                    case NOTE:
                        waiting.add(step + 1);
                        break;
                    default:
                        coming.add((step << SHARE_BITS) + origin);
                        break;
                }
            }
        }
    }

    /** The patterns and the text: what changes, undo and snapshots are about. */
    private static final class Content {
        private final Pattern[] patterns = new Pattern[PATTERN_LIMIT];
        private int count = 0;
        private final Row text = new Row(TEXT_ROOM);

        int size() {
            return count;
        }

        boolean isFull() {
            return count >= patterns.length;
        }

        /** Returns null if there is no such pattern. */
        Pattern patternAt(int index) {
            if (index < 0 || index >= count || index >= patterns.length) {
                return null;
            }
            return patterns[index];
        }

        void addPattern(Pattern pattern) {
            int end = count;
            if (end >= 0 && end < patterns.length) {
                patterns[end] = pattern;
                count = end + 1;
            }
        }

        void dropPattern(int index) {
            if (index < 0 || index >= count) {
                return;
            }
            for (int moved = index; moved < count && moved < patterns.length; moved++) {
                patterns[moved] = patternAt(moved + 1);
            }
            count--;
        }

        void copyFrom(Content other) {
            count = 0;
            for (int index = 0; index < other.count; index++) {
                addPattern(other.patternAt(index));
            }
            text.copyFrom(other.text);
        }
    }

    /** The contents before the latest changes, in a ring. */
    private static final class History {
        private final Content[] kept = new Content[UNDO_LIMIT];
        private int oldest = 0;
        private int size = 0;

        History() {
            for (int index = 0; index < kept.length; index++) {
                kept[index] = new Content();
            }
        }

        int size() {
            return size;
        }

        void clear() {
            size = 0;
        }

        void remember(Content content) {
            if (size >= UNDO_LIMIT) {
                oldest = (oldest + 1) % UNDO_LIMIT;
                size--;
            }
            Content place = placeAt(size);
            if (place != null) {
                place.copyFrom(content);
                size++;
            }
        }

        void takeBack(Content content) {
            if (size <= 0) {
                return;
            }
            size--;
            Content place = placeAt(size);
            if (place != null) {
                content.copyFrom(place);
            }
        }

        private Content placeAt(int age) {
            int index = (oldest + age) % UNDO_LIMIT;
            if (index < 0 || index >= kept.length) {
                return null;
            }
            return kept[index];
        }
    }
}
