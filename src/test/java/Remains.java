import java.util.LinkedHashMap;
import java.util.List;
import java.util.Map;
import java.util.Set;

/** All that later calls can tell of an engine, part by part; to read it uses the engine up. */
final class Remains {
    static final String PATTERNS = "patterns";
    static final String TEXT = "text";
    static final String LINE = "line";
    static final String FAULT = "fault";
    static final String UNDO = "what can be undone";
    static final String TEXT_BUFFER = "text buffer";
    static final String PATTERN_BUFFER = "pattern buffer";
    static final String SNAPSHOT = "snapshot";
    static final String NO_FAULT =
            "throws.NoSuchElementException,throws.NoSuchElementException,throws.NoSuchElementException";

    /** The parts that a call changes if it throws nothing; what is not named here changes none. */
    private static final Map<String, Set<String>> CHANGED = Map.ofEntries(
            Map.entry("typePattern", Set.of(PATTERN_BUFFER)),
            Map.entry("compile", Set.of(PATTERNS, PATTERN_BUFFER, UNDO)),
            Map.entry("removePattern", Set.of(PATTERNS, UNDO)),
            Map.entry("typeText", Set.of(TEXT_BUFFER)),
            Map.entry("setText", Set.of(TEXT, TEXT_BUFFER, UNDO)),
            Map.entry("insertText", Set.of(TEXT, TEXT_BUFFER, UNDO)),
            Map.entry("deleteText", Set.of(TEXT, UNDO)),
            Map.entry("replaceMatches", Set.of(TEXT, UNDO)),
            Map.entry("writeMatch", Set.of(LINE)),
            Map.entry("writeMarked", Set.of(LINE)),
            Map.entry("undo", Set.of(PATTERNS, TEXT, UNDO)),
            Map.entry("saveSnapshot", Set.of(SNAPSHOT)),
            Map.entry("restoreSnapshot", Set.of(PATTERNS, TEXT, UNDO)));

    private Remains() {
    }

    static Set<String> changedBy(String name) {
        return CHANGED.getOrDefault(name, Set.of());
    }

    static Map<String, String> of(Subject subject) {
        Map<String, String> parts = new LinkedHashMap<>();
        parts.put(PATTERNS, subject.patterns());
        parts.put(TEXT, subject.text());
        parts.put(LINE, subject.line());
        parts.put(FAULT, subject.fault());
        parts.put(UNDO, undone(subject));
        parts.put(TEXT_BUFFER, textBuffer(subject));
        parts.put(PATTERN_BUFFER, patternBuffer(subject));
        parts.put(SNAPSHOT, snapshot(subject));
        return parts;
    }

    /** What the part is in a new engine. */
    static String empty(String part) {
        return of(new Subject()).get(part);
    }

    private static String undone(Subject subject) {
        StringBuilder told = new StringBuilder(subject.call("undoCount"));
        for (String answer = subject.call("undo"); !answer.startsWith("throws."); answer = subject.call("undo")) {
            told.append(" [").append(answer).append(' ').append(subject.patterns());
            told.append(' ').append(subject.text()).append(']');
        }
        return told.toString();
    }

    private static String textBuffer(Subject subject) {
        return subject.call("typeText", '~') + " " + subject.call("setText") + " " + subject.text();
    }

    /** First all patterns go, so that a full engine tells of the buffer too. */
    private static String patternBuffer(Subject subject) {
        while (!subject.call("patternCount").equals("0")) {
            subject.call("removePattern", 0);
        }
        List<String> answers = List.of(subject.call("typePattern", 'z'), subject.call("compile"));
        boolean valid = subject.call("patternCount").equals("1");
        return answers + " " + (valid ? subject.patterns() : subject.fault());
    }

    private static String snapshot(Subject subject) {
        String answer = subject.call("restoreSnapshot");
        return answer.startsWith("throws.") ? answer : answer + " " + subject.patterns() + " " + subject.text();
    }
}
