import java.util.Arrays;
import java.util.Map;
import java.util.Set;
import java.util.function.Consumer;

/**
 * A run of calls on a new engine with the answers that are due. Each checked call is looked at from
 * behind too: an engine that has had it and one that has not must agree in all that it may not change.
 */
final class Run {
    static final String OUTSIDE = "IndexOutOfBoundsException";
    static final String MISSING = "NoSuchElementException";
    static final String STATE = "IllegalStateException";
    static final String ARGUMENT = "IllegalArgumentException";
    static final String ARITHMETIC = "ArithmeticException";

    private final Subject subject = new Subject();

    static void test(String name, Consumer<Run> body) {
        Checks.test(name, () -> body.accept(new Run()));
    }

    /** Compiles each of them. */
    Run patterns(String... patterns) {
        for (String pattern : patterns) {
            typesPattern(pattern);
            does("compile");
        }
        return this;
    }

    /** Makes it the text. */
    Run text(String characters) {
        return typesText(characters).does("setText");
    }

    Run typesPattern(String characters) {
        subject.type("typePattern", characters);
        return this;
    }

    Run typesText(String characters) {
        subject.type("typeText", characters);
        return this;
    }

    Run does(String name, int... arguments) {
        String answer = subject.call(name, arguments);
        Checks.no(told(name, arguments) + " threw " + answer, answer.startsWith("throws."));
        return this;
    }

    Run times(int count, String name, int... arguments) {
        for (int time = 0; time < count; time++) {
            does(name, arguments);
        }
        return this;
    }

    Run due(Object answer, String name, int... arguments) {
        int before = subject.callCount();
        String due = answer instanceof Character sign ? "" + (int) sign : "" + answer;
        Checks.same(told(name, arguments), subject.call(name, arguments), due);
        compare(told(name, arguments), before, Map.of(), Remains.changedBy(name));
        return this;
    }

    /** The call writes the line and changes nothing else. */
    Run writes(String line, String name, int... arguments) {
        due(line.length(), name, arguments);
        return shows(Remains.LINE, line);
    }

    /** The call throws and changes nothing. */
    Run refuses(String exception, String name, int... arguments) {
        return refusesAndChanges(Map.of(), exception, name, arguments);
    }

    /** The call throws, the buffer is empty, and nothing else has changed. */
    Run refusesAndEmpties(String buffer, String exception, String name, int... arguments) {
        return refusesAndChanges(Map.of(buffer, Remains.empty(buffer)), exception, name, arguments);
    }

    /** The pattern is not valid: the pattern buffer is empty, the fault is kept, and nothing else has changed. */
    Run faults(String fault, String pattern) {
        typesPattern(pattern);
        String empty = Remains.empty(Remains.PATTERN_BUFFER);
        return refusesAndChanges(
                Map.of(Remains.PATTERN_BUFFER, empty, Remains.FAULT, fault), ARGUMENT, "compile");
    }

    /** As faults, where the test itself asks for the fault. */
    Run refusesAndFaults() {
        Checks.same("compile", subject.call("compile"), "throws." + ARGUMENT);
        return this;
    }

    private Run refusesAndChanges(Map<String, String> parts, String exception, String name, int... arguments) {
        int before = subject.callCount();
        Checks.same(told(name, arguments), subject.call(name, arguments), "throws." + exception);
        compare(told(name, arguments), before, parts, Set.of());
        return this;
    }

    private void compare(String what, int before, Map<String, String> parts, Set<String> free) {
        Map<String, String> due = Remains.of(subject.afterFirst(before));
        Map<String, String> got = Remains.of(subject.afterFirst(before + 1));
        due.putAll(parts);
        due.keySet().removeAll(free);
        got.keySet().removeAll(free);
        Checks.same("what remains after " + what, got.toString(), due.toString());
    }

    /** The patterns, each behind a "/", the text, the line or the fault. */
    Run shows(String part, String due) {
        String got = switch (part) {
            case Remains.PATTERNS -> subject.patterns();
            case Remains.TEXT -> subject.text();
            case Remains.LINE -> subject.line();
            case Remains.FAULT -> subject.fault();
            default -> throw new IllegalArgumentException(part);
        };
        Checks.same(part, got, due);
        return this;
    }

    private static String told(String name, int... arguments) {
        return name + Arrays.toString(arguments);
    }
}
