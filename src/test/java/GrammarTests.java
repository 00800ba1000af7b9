import java.util.HashSet;
import java.util.List;
import java.util.Random;
import java.util.Set;
import java.util.function.Consumer;

/** Promises 3 and 8 to 13 by the words of the document: all short patterns, and all short texts for them. */
public final class GrammarTests {
    private static final String SIGNS = "a.()[]^|*+?";
    private static final int WORD_LENGTH = 5;

    /** What begins with at most 4 characters, of which at most 2 open a bracket, can be ended with 3 more. */
    private static final int BEGUN_LENGTH = 4;
    private static final int BEGUN_BRACKETS = 2;
    private static final Grammar GRAMMAR = new Grammar(BEGUN_LENGTH + 3);

    private static final int PATTERN_LENGTH = 5;
    private static final int PATTERNS_TRIED = 200;

    /** An engine may be used for 512 calls; a turn takes at most 12. */
    private static final int TURNS = 40;

    /** Gives the same engine for so many turns, then a new one. */
    private static final class Renewed {
        private final String pattern;
        private RegexTracer engine;
        private int turns = 0;

        Renewed(String pattern) {
            this.pattern = pattern;
        }

        RegexTracer engine() {
            if (turns % TURNS == 0) {
                engine = Engines.with("", pattern);
            }
            turns++;
            return engine;
        }
    }

    public static void main(String[] arguments) {
        Checks.test("promise 3: what the grammar makes is valid, and nothing else is", GrammarTests::validWords);
        Checks.test("promises 11 to 13: the first character that cannot continue any valid pattern",
                GrammarTests::faults);
        Checks.test("promise 8: each opening bracket is a group", GrammarTests::groupCounts);
        Checks.test("promises 9 and 10: the shortest and the longest of all texts that match",
                GrammarTests::matchingTexts);
        Checks.end();
    }

    private static void eachWord(String signs, int length, String begun, Consumer<String> body) {
        body.accept(begun);
        if (begun.length() < length) {
            for (char sign : signs.toCharArray()) {
                eachWord(signs, length, begun + sign, body);
            }
        }
    }

    private static String compiled(RegexTracer engine, String pattern) {
        Engines.typePattern(engine, pattern);
        return Calls.call(engine, "compile", 0, 0, 0);
    }

    private static void validWords() {
        Set<String> valid = new HashSet<>(GRAMMAR.patternsUpTo(WORD_LENGTH));
        Renewed renewed = new Renewed("");
        eachWord(SIGNS, WORD_LENGTH, "", word -> {
            RegexTracer engine = renewed.engine();
            String due = valid.contains(word) ? "1" : "throws.IllegalArgumentException";
            Checks.same("compile of " + word, compiled(engine, word), due);
            Calls.call(engine, "removePattern", 1, 0, 0);
        });
    }

    private static void faults() {
        Set<String> valid = new HashSet<>(GRAMMAR.patternsUpTo(BEGUN_LENGTH + 3));
        Set<String> begun = new HashSet<>();
        for (String pattern : valid) {
            for (int length = 0; length <= pattern.length(); length++) {
                begun.add(pattern.substring(0, length));
            }
        }
        eachWord(SIGNS + "A", BEGUN_LENGTH, "", word -> {
            if (!valid.contains(word) && count(word, "([") <= BEGUN_BRACKETS) {
                checkFault(word, begun);
            }
        });
    }

    private static void checkFault(String word, Set<String> begun) {
        int position = 0;
        while (position < word.length() && begun.contains(word.substring(0, position + 1))) {
            position++;
        }
        String before = word.substring(0, position);
        int depth = count(before, "(") - count(before, ")");
        RegexTracer engine = new RegexTracer();
        compiled(engine, word);
        String due = position + "," + kindAt(word, position) + "," + depth;
        Checks.same("fault of " + word, Engines.faultOf(engine), due);
    }

    private static int kindAt(String word, int position) {
        if (position == word.length()) {
            return 5;
        }
        return switch (word.charAt(position)) {
            case '*', '+', '?' -> 1;
            case ')' -> 2;
            case '(' -> 3;
            default -> 4;
        };
    }

    private static int count(String word, String signs) {
        return (int) word.chars().filter(sign -> signs.indexOf(sign) >= 0).count();
    }

    private static void groupCounts() {
        for (String pattern : GRAMMAR.patternsUpTo(WORD_LENGTH)) {
            RegexTracer engine = Engines.with("", pattern);
            Checks.same("groupCount of " + pattern, engine.groupCount(0), count(pattern, "("));
        }
    }

    /**
     * Without a repeat each character of a text needs one of the pattern. With one, the repeated part
     * has no more characters than the pattern, so that some text between once and twice its length matches.
     */
    private static void matchingTexts() {
        List<String> patterns = GRAMMAR.patternsUpTo(PATTERN_LENGTH);
        Random random = new Random(6);
        for (int tried = 0; tried < PATTERNS_TRIED; tried++) {
            String pattern = patterns.get(random.nextInt(patterns.size()));
            Set<Integer> lengths = new HashSet<>();
            Renewed renewed = new Renewed(pattern);
            eachWord("ab", 2 * pattern.length(), "", text -> {
                RegexTracer engine = renewed.engine();
                Engines.text(engine, text);
                if (engine.matchesAll(0)) {
                    lengths.add(text.length());
                }
            });
            RegexTracer engine = Engines.with("", pattern);
            int longest = lengths.stream().max(Integer::compare).orElseThrow();
            Checks.same("minimumLength of " + pattern, engine.minimumLength(0),
                    lengths.stream().min(Integer::compare).orElseThrow());
            Checks.same("maximumLength of " + pattern, Calls.call(engine, "maximumLength", 0, 0, 0),
                    longest > pattern.length() ? "throws.NoSuchElementException" : "" + longest);
        }
    }
}
