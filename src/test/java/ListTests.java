import java.util.NoSuchElementException;

/** Promises 30 to 38. */
public final class ListTests {
    private static final Class<IndexOutOfBoundsException> OUTSIDE = IndexOutOfBoundsException.class;
    private static final Class<NoSuchElementException> MISSING = NoSuchElementException.class;
    private static final Class<ArithmeticException> ARITHMETIC = ArithmeticException.class;
    private static final int[] NO_PATTERNS = {-1, 2, 4, Integer.MIN_VALUE, Integer.MAX_VALUE};

    public static void main(String[] arguments) {
        Checks.test("promises 30 to 32: matches that are not empty", ListTests::matches);
        Checks.test("promises 30 to 32: empty matches", ListTests::emptyMatches);
        Checks.test("promises 30 to 32: 41 matches", ListTests::mostMatches);
        Checks.test("promises 30 to 32: what is refused", ListTests::matchesRefused);
        Checks.test("promise 33: longestMatch", ListTests::longestMatch);
        Checks.test("promise 34: matchedCharacters", ListTests::matchedCharacters);
        Checks.test("promise 35: patternByMatches", ListTests::patternByMatches);
        Checks.test("promise 35: no such rank", ListTests::noRank);
        Checks.test("promise 36: meanMatchLength", ListTests::meanMatchLength);
        Checks.test("promise 37: coverage", ListTests::coverage);
        Checks.test("promises 33 to 37: no such pattern", ListTests::outside);
        Checks.test("promise 38: isConsistent", ListTests::isConsistent);
        Checks.end();
    }

    private static void matches() {
        listed("ab", "abxabab", "0+2 3+2 5+2");
        listed("a+", "aabaaab", "0+2 3+3");
        listed("aa", "aaaaa", "0+2 2+2");
        listed("x", "aaa", "");
        listed("a", "", "");
        listed("aba", "ababa", "0+3");
        listed(".+", "a b c", "0+5");
        listed("[^ ]+", "ab  c d", "0+2 4+1 6+1");
    }

    private static void emptyMatches() {
        listed("", "", "0+0");
        listed("", "ab", "0+0 1+0 2+0");
        listed("a*", "baac", "0+0 1+2 3+0 4+0");
        listed("a*", "aa", "0+2 2+0");
        listed("b|", "abab", "0+0 1+1 2+0 3+1 4+0");
        listed("|b", "ab", "0+0 1+0 2+0");
        listed("a?", "aab", "0+1 1+1 2+0 3+0");
    }

    private static void listed(String pattern, String text, String due) {
        RegexTracer engine = Engines.with(text, pattern);
        Checks.same("matches of " + pattern + " on " + text, Engines.matchesOf(engine, 0), due);
    }

    private static void mostMatches() {
        RegexTracer engine = Engines.with(Engines.repeated("a", 40), "", "a");
        Checks.same("matchCount", engine.matchCount(0), 41);
        Checks.same("matchStart", engine.matchStart(0, 40), 40);
        Checks.same("matchLength", engine.matchLength(0, 40), 0);
        Checks.fails("matchStart", MISSING, () -> engine.matchStart(0, 41));
        Checks.same("matchCount", engine.matchCount(1), 40);
        Checks.same("matchStart", engine.matchStart(1, 39), 39);
    }

    private static void matchesRefused() {
        RegexTracer engine = Engines.with("aba", "a", "c");
        for (int pattern : NO_PATTERNS) {
            Engines.refuses(engine, "matchCount", OUTSIDE, () -> engine.matchCount(pattern));
            Engines.refuses(engine, "matchStart", OUTSIDE, () -> engine.matchStart(pattern, 9));
            Engines.refuses(engine, "matchLength", OUTSIDE, () -> engine.matchLength(pattern, -1));
        }
        int[] wrong = {-1, 2, 41, 42, Integer.MIN_VALUE, Integer.MAX_VALUE};
        for (int match : wrong) {
            Engines.refuses(engine, "matchStart", MISSING, () -> engine.matchStart(0, match));
            Engines.refuses(engine, "matchLength", MISSING, () -> engine.matchLength(0, match));
        }
        Engines.refuses(engine, "matchStart", MISSING, () -> engine.matchStart(1, 0));
        Engines.refuses(engine, "matchLength", MISSING, () -> engine.matchLength(1, 0));
    }

    private static void longestMatch() {
        RegexTracer engine = Engines.with("a aa b aaa aaa a", "a+", "x", "", "[^ ]*");
        Checks.same("longestMatch", engine.longestMatch(0), 2);
        Engines.refuses(engine, "longestMatch", MISSING, () -> engine.longestMatch(1));
        Checks.same("longestMatch", engine.longestMatch(2), 0);
        Engines.text(engine, "aa aa");
        Checks.same("longestMatch", engine.longestMatch(0), 0);
        Engines.text(engine, " a");
        Checks.same("longestMatch", engine.longestMatch(3), 1);
    }

    private static void matchedCharacters() {
        RegexTracer engine = Engines.with("aab aaa", "a+", "x", "", ".*");
        Checks.same("matchedCharacters", engine.matchedCharacters(0), 5);
        Checks.same("matchedCharacters", engine.matchedCharacters(1), 0);
        Checks.same("matchedCharacters", engine.matchedCharacters(2), 0);
        Checks.same("matchedCharacters", engine.matchedCharacters(3), 7);
    }

    private static void patternByMatches() {
        RegexTracer engine = Engines.with("aabab c", "b", "a", "x", "[^a]");
        ranked(engine, "3102");
        Engines.text(engine, "");
        ranked(engine, "0123");
        engine.removePattern(0);
        Engines.pattern(engine, "");
        ranked(engine, "3012");
        Engines.text(engine, "aa");
        ranked(engine, "3012");
        Engines.text(engine, "abab");
        ranked(engine, "3021");
    }

    private static void ranked(RegexTracer engine, String due) {
        StringBuilder order = new StringBuilder();
        for (int rank = 0; rank < engine.patternCount(); rank++) {
            order.append(engine.patternByMatches(rank));
        }
        Checks.same("patterns by matches", order.toString(), due);
    }

    private static void noRank() {
        RegexTracer engine = Engines.with("a", "a", "b");
        int[] wrong = {-1, 2, 3, 4, Integer.MIN_VALUE, Integer.MAX_VALUE};
        for (int rank : wrong) {
            Engines.refuses(engine, "patternByMatches", MISSING, () -> engine.patternByMatches(rank));
        }
        RegexTracer empty = new RegexTracer();
        Engines.refuses(empty, "patternByMatches", MISSING, () -> empty.patternByMatches(0));
    }

    private static void meanMatchLength() {
        RegexTracer engine = Engines.with("aa a aa a", "a+", "x", "", "aa.*|a");
        Checks.same("meanMatchLength", engine.meanMatchLength(0), 1.5);
        Engines.refuses(engine, "meanMatchLength", ARITHMETIC, () -> engine.meanMatchLength(1));
        Checks.same("meanMatchLength", engine.meanMatchLength(2), 0.0);
        Checks.same("meanMatchLength", engine.meanMatchLength(3), 9.0);
        Engines.text(engine, "aa a a");
        Checks.same("meanMatchLength", engine.meanMatchLength(0), 4.0 / 3.0);
        engine.setText();
        Engines.refuses(engine, "meanMatchLength", ARITHMETIC, () -> engine.meanMatchLength(0));
        Checks.same("meanMatchLength", engine.meanMatchLength(2), 0.0);
    }

    private static void coverage() {
        RegexTracer engine = Engines.with("aabcb a", "a+", "x", "", ".*");
        Checks.same("coverage", engine.coverage(0), 3.0f / 7.0f);
        Checks.same("coverage", engine.coverage(1), 0.0f);
        Checks.same("coverage", engine.coverage(2), 0.0f);
        Checks.same("coverage", engine.coverage(3), 1.0f);
        engine.setText();
        Engines.refuses(engine, "coverage", ARITHMETIC, () -> engine.coverage(0));
        Engines.refuses(engine, "coverage", ARITHMETIC, () -> engine.coverage(2));
        Engines.refuses(engine, "coverage", OUTSIDE, () -> engine.coverage(4));
        Engines.refuses(engine, "coverage", OUTSIDE, () -> engine.coverage(-1));
    }

    private static void outside() {
        RegexTracer engine = Engines.with("aba", "a", "b");
        for (int pattern : NO_PATTERNS) {
            Engines.refuses(engine, "longestMatch", OUTSIDE, () -> engine.longestMatch(pattern));
            Engines.refuses(engine, "matchedCharacters", OUTSIDE, () -> engine.matchedCharacters(pattern));
            Engines.refuses(engine, "meanMatchLength", OUTSIDE, () -> engine.meanMatchLength(pattern));
            Engines.refuses(engine, "coverage", OUTSIDE, () -> engine.coverage(pattern));
        }
    }

    private static void isConsistent() {
        RegexTracer engine = new RegexTracer();
        Checks.yes("isConsistent", engine.isConsistent());
        Engines.pattern(engine, "(a|ab)(c|bcd)*");
        Checks.yes("isConsistent", engine.isConsistent());
        Engines.pattern(engine, "");
        Engines.pattern(engine, "(a?b|a)+(ab)?|c");
        Engines.pattern(engine, "x");
        Engines.text(engine, "abcdabaabbcabcdbcdx");
        Checks.yes("isConsistent", engine.isConsistent());
        Checks.same("undoCount", engine.undoCount(), 5);
    }
}
