import java.util.NoSuchElementException;

/** Promises 21 to 29. */
public final class MatchTests {
    private static final Class<IndexOutOfBoundsException> OUTSIDE = IndexOutOfBoundsException.class;
    private static final Class<NoSuchElementException> MISSING = NoSuchElementException.class;
    private static final String MANY = Engines.repeated("a", 40);

    public static void main(String[] arguments) {
        Checks.test("promises 21 and 22: matchesAll", MatchTests::matchesAll);
        Checks.test("promises 21 and 22: ways that are not preferred", MatchTests::matchesAllOtherWays);
        Checks.test("promises 21 and 22: no such pattern", MatchTests::matchesAllOutside);
        Checks.test("promises 23 to 26: what an atom matches", MatchTests::atoms);
        Checks.test("promises 23 to 26: the first position", MatchTests::firstPosition);
        Checks.test("promises 23 to 26: preference", MatchTests::preference);
        Checks.test("promises 23 to 26: empty matches", MatchTests::emptyMatches);
        Checks.test("promises 23 to 26: no match", MatchTests::noMatch);
        Checks.test("promises 23 to 26: no such pattern or position", MatchTests::outside);
        Checks.test("promises 27 to 29: groups", MatchTests::groups);
        Checks.test("promises 27 to 29: groups in repeats", MatchTests::groupsInRepeats);
        Checks.test("promises 27 to 29: empty groups", MatchTests::emptyGroups);
        Checks.test("promises 27 to 29: groups after a way that failed", MatchTests::groupsAfterFailure);
        Checks.test("promises 27 to 29: what is refused", MatchTests::groupsRefused);
        Checks.test("promises 21 to 29: many ways on a long text", MatchTests::manyWays);
        Checks.end();
    }

    private static void matchesAll() {
        whole("", "", true);
        whole("", "a", false);
        whole("abc", "abc", true);
        whole("abc", "abcd", false);
        whole("abc", "ab", false);
        whole("a*", "", true);
        whole("a*", "aaaa", true);
        whole("a*", "aaab", false);
        whole("a+", "", false);
        whole(".", "~", true);
        whole("(a|b)+", "abba", true);
        whole("(a|b)+", "abca", false);
        whole("[^a]", "a", false);
        whole("[^a]", "A", true);
        whole("b", "ab", false);
        whole(Engines.repeated("a?", 15), Engines.repeated("a", 15), true);
        whole(Engines.repeated("a?", 15), Engines.repeated("a", 16), false);
        whole(".*", MANY, true);
    }

    private static void matchesAllOtherWays() {
        whole("a|ab", "ab", true);
        whole("|a", "a", true);
        whole("(|a)(|b)", "ab", true);
        whole("(a|ab)(c|bcd)", "abcd", true);
        whole("(a|ab)(c|bcd)", "abc", true);
        whole("(a|ab)(c|bcd)", "ac", true);
        whole("(a|ab)(c|bcd)", "abbc", false);
        whole("(a|aa)+b?", "aaaaa", true);
    }

    private static void whole(String pattern, String text, boolean due) {
        RegexTracer engine = Engines.with(text, pattern);
        String call = "matchesAll of " + pattern + " on " + text;
        Checks.same(call, String.valueOf(engine.matchesAll(0)), String.valueOf(due));
        Checks.same(call + " by threads", String.valueOf(engine.matchesAllByThreads(0)), String.valueOf(due));
    }

    private static void matchesAllOutside() {
        RegexTracer engine = Engines.with("a", "a");
        int[] wrong = {-1, 1, 4, Integer.MIN_VALUE, Integer.MAX_VALUE};
        for (int pattern : wrong) {
            Engines.refuses(engine, "matchesAll", OUTSIDE, () -> engine.matchesAll(pattern));
            Engines.refuses(engine, "matchesAllByThreads", OUTSIDE, () -> engine.matchesAllByThreads(pattern));
        }
    }

    private static void atoms() {
        found("b", "abc", 0, 1, 2);
        found("9", "0123456789", 0, 9, 10);
        found(" ", "a b", 0, 1, 2);
        found(".", "~", 0, 0, 1);
        found("[bc]", "abc", 0, 1, 2);
        found("[c b]", "a bc", 0, 1, 2);
        found("[^ab]", "abA", 0, 2, 3);
        found("[^ab]", "ab.", 0, 2, 3);
        found("[^ ]+", " abc d", 0, 1, 4);
        found("[^ ]+", " abc d", 4, 5, 6);
        found("a.c", "abbabc", 0, 3, 6);
        found("(ab)", "aab", 0, 1, 3);
        found("a(b|c)d", "abcacd", 0, 3, 6);
    }

    private static void firstPosition() {
        found("a", "bab", 0, 1, 2);
        found("a", "aaa", 2, 2, 3);
        found("ab|b", "ab", 0, 0, 2);
        found("b|ab", "ab", 0, 0, 2);
        found("abcd|bc|c", "abce", 0, 1, 3);
        found("ab|b", "ab", 1, 1, 2);
        found("b|a", "ab", 0, 0, 1);
        found("a.*b", "xaxbxbx", 0, 1, 6);
        found("abc|b.*", "abxb", 0, 1, 4);
    }

    private static void preference() {
        found("a|ab", "ab", 0, 0, 1);
        found("ab|a", "ab", 0, 0, 2);
        found("a*", "aaab", 0, 0, 3);
        found("a?", "aaab", 0, 0, 1);
        found("(a|ab)(c|bcd)", "abcd", 0, 0, 4);
        found("(a|ab)(c|bcd)?", "abcd", 0, 0, 4);
        found("(a|ab)c?", "abc", 0, 0, 1);
        found("(|a)b?", "ab", 0, 0, 0);
        found("(a|b|ab)*c?", "abc", 0, 0, 3);
        found("(a|ab)*", "aab", 0, 0, 2);
        found("(ab|a)*", "aab", 0, 0, 3);
        found("(a+|b)*a", "abaa", 0, 0, 4);
        found("((a|b)+b|a)", "abab", 0, 0, 4);
        found(".*b", "abcbc", 0, 0, 4);
        found("(a?b|a)(ab)?", "aab", 0, 0, 3);
    }

    private static void emptyMatches() {
        found("", "abc", 0, 0, 0);
        found("", "abc", 3, 3, 3);
        found("", "", 0, 0, 0);
        found("a*", "baa", 0, 0, 0);
        found("a*", "baa", 1, 1, 3);
        found("b|", "ab", 0, 0, 0);
        found("|b", "ab", 1, 1, 1);
        found("(|)?", "ab", 1, 1, 1);
    }

    private static void found(String pattern, String text, int from, int start, int end) {
        RegexTracer engine = Engines.with(text, pattern);
        String call = pattern + " on " + text + " from " + from;
        Checks.same("find of " + call, engine.find(0, from), start);
        Checks.same("findEnd of " + call, engine.findEnd(0, from), end);
        Checks.same("findByThreads of " + call, engine.findByThreads(0, from), start);
        Checks.same("findEndByThreads of " + call, engine.findEndByThreads(0, from), end);
        Checks.same("undoCount", engine.undoCount(), 2);
    }

    private static void noMatch() {
        String[][] pairs = {{"a", "bcd"}, {"a", ""}, {".", ""}, {"abc", "abab"}, {"[^a]", "aaa"}, {"(a|b)c", "abab"}};
        for (String[] pair : pairs) {
            RegexTracer engine = Engines.with(pair[1], pair[0]);
            refusesAll(engine, 0, 0, MISSING);
        }
        RegexTracer engine = Engines.with("ab", "a");
        refusesAll(engine, 0, 1, MISSING);
        refusesAll(engine, 0, 2, MISSING);
        Checks.same("find", engine.find(0, 0), 0);
    }

    private static void outside() {
        RegexTracer engine = Engines.with("abc", "a", "b");
        int[] wrong = {-1, 2, Integer.MIN_VALUE, Integer.MAX_VALUE};
        for (int pattern : wrong) {
            refusesAll(engine, pattern, 0, OUTSIDE);
        }
        int[] wrongFrom = {-1, 4, 40, 41, Integer.MIN_VALUE, Integer.MAX_VALUE};
        for (int from : wrongFrom) {
            refusesAll(engine, 0, from, OUTSIDE);
        }
    }

    private static void refusesAll(
            RegexTracer engine, int pattern, int from, Class<? extends RuntimeException> due) {
        String place = " of " + pattern + " from " + from;
        Engines.refuses(engine, "find" + place, due, () -> engine.find(pattern, from));
        Engines.refuses(engine, "findEnd" + place, due, () -> engine.findEnd(pattern, from));
        Engines.refuses(engine, "findByThreads" + place, due, () -> engine.findByThreads(pattern, from));
        Engines.refuses(engine, "findEndByThreads" + place, due, () -> engine.findEndByThreads(pattern, from));
    }

    private static void groups() {
        grouped("(a)(b)", "ab", "0-2;1:0-1;2:1-2");
        grouped("(a(b(c)))", "xabc", "1-4;1:1-4;2:2-4;3:3-4");
        grouped("(a)|(b)", "b", "0-1;1:;2:0-1");
        grouped("(a)|(b)", "a", "0-1;1:0-1;2:");
        grouped("(a)?b", "b", "0-1;1:");
        grouped("(a*)(a*)", "aaa", "0-3;1:0-3;2:3-3");
        grouped("(a|ab)(c|bcd)(d?)", "abcd", "0-4;1:0-1;2:1-4;3:4-4");
        grouped("x(.)(.)(.)(.)(.)", "xabcde", "0-6;1:1-2;2:2-3;3:3-4;4:4-5;5:5-6");
    }

    private static void groupsInRepeats() {
        grouped("(a|b)*", "abab", "0-4;1:3-4");
        grouped("(a)*", "b", "0-0;1:");
        grouped("((a)|b)*", "ab", "0-2;1:1-2;2:0-1");
        grouped("((a)|(b)|c)+", "abc", "0-3;1:2-3;2:0-1;3:1-2");
        grouped("(a(b)?)+", "aba", "0-3;1:2-3;2:1-2");
        grouped("(a(b)?|c(d)?)*", "abcdac", "0-6;1:5-6;2:1-2;3:3-4");
        grouped("((ab?)+c)*", "abacaac", "0-7;1:4-7;2:5-6");
        grouped("(a+|b)*(c)?", "aabaa", "0-5;1:3-5;2:");
    }

    private static void emptyGroups() {
        grouped("()", "a", "0-0;1:0-0");
        grouped("()?", "a", "0-0;1:0-0");
        grouped("(a*)?", "b", "0-0;1:0-0");
        grouped("(a?)?b", "b", "0-1;1:0-0");
        grouped("((a)?)?b", "b", "0-1;1:0-0;2:");
        grouped("(|a)", "a", "0-0;1:0-0");
        grouped("(a()b)+", "abab", "0-4;1:2-4;2:3-3");
        grouped("(b|()a)+", "ab", "0-2;1:1-2;2:0-0");
    }

    private static void groupsAfterFailure() {
        grouped("(a)b|ac", "ac", "0-2;1:");
        grouped("((a)b|a)c", "ac", "0-2;1:0-1;2:");
        grouped("((a)*b|a(a))", "aa", "0-2;1:0-2;2:;3:1-2");
        grouped("(a)*ab", "aab", "0-3;1:0-1");
        grouped("(a)?ab", "ab", "0-2;1:");
        grouped("(a(b)?)*abd", "ababd", "0-5;1:0-2;2:1-2");
        grouped("((a)|(b))*b", "ab", "0-2;1:0-1;2:0-1;3:");
        grouped("(a)(b)c|a(b)", "xabab", "1-3;1:;2:;3:2-3");
        grouped("(a)x|b", "aab", "2-3;1:");
    }

    private static void grouped(String pattern, String text, String due) {
        RegexTracer engine = Engines.with(text, pattern);
        String call = pattern + " on " + text;
        Checks.same("match of " + call, Engines.matchOf(engine, 0, 0), due);
        Checks.same("groups of " + call, groupsOf(engine), due.substring(due.indexOf(';')));
    }

    private static String groupsOf(RegexTracer engine) {
        StringBuilder text = new StringBuilder();
        for (int group = 1; group <= engine.groupCount(0); group++) {
            text.append(';').append(group).append(':');
            int number = group;
            if (engine.isGroupSet(0, 0, group)) {
                text.append(engine.groupStart(0, 0, group)).append('-').append(engine.groupEnd(0, 0, group));
            } else {
                Engines.refuses(engine, "groupStart", MISSING, () -> engine.groupStart(0, 0, number));
                Engines.refuses(engine, "groupEnd", MISSING, () -> engine.groupEnd(0, 0, number));
            }
        }
        return text.toString();
    }

    private static void groupsRefused() {
        RegexTracer engine = Engines.with("ab", "(a)(c)?", "b");
        int[][] wrong = {{-1, 0, 1}, {2, 0, 1}, {0, -1, 1}, {0, 3, 1}, {0, 0, 0}, {0, 0, 3}, {0, 0, -1}, {1, 0, 1},
            {1, 0, 0}, {0, 1, 3}, {0, 2, 0}, {0, 0, Integer.MIN_VALUE}, {0, 0, Integer.MAX_VALUE}};
        for (int[] place : wrong) {
            refusesGroup(engine, place[0], place[1], place[2], OUTSIDE);
        }
        refusesGroup(engine, 0, 1, 1, MISSING);
        refusesGroup(engine, 0, 2, 2, MISSING);
        Checks.no("isGroupSet", engine.isGroupSet(0, 0, 2));
        Engines.refuses(engine, "groupStart", MISSING, () -> engine.groupStart(0, 0, 2));
        Engines.refuses(engine, "groupEnd", MISSING, () -> engine.groupEnd(0, 0, 2));
    }

    private static void refusesGroup(
            RegexTracer engine, int pattern, int from, int group, Class<? extends RuntimeException> due) {
        String place = " of " + pattern + " from " + from + " of group " + group;
        Engines.refuses(engine, "isGroupSet" + place, due, () -> engine.isGroupSet(pattern, from, group));
        Engines.refuses(engine, "groupStart" + place, due, () -> engine.groupStart(pattern, from, group));
        Engines.refuses(engine, "groupEnd" + place, due, () -> engine.groupEnd(pattern, from, group));
    }

    /** A search that tried every way would not end here. */
    private static void manyWays() {
        String[] patterns = {"(((((a)+)+)+)+)+b", "(a|a|a|a)*(a|a|a|a)*b", "a*a*a*a*a*a*a*a*a*a*a*a*a*a*b",
            "((a|a)+|(a|a)+)+[^a]", "(a?a?a?a?a?a)+(a?a)*(a+a?)+b", "(.*.*.*.*.*.+)+b"};
        for (String pattern : patterns) {
            RegexTracer engine = Engines.with(MANY, pattern);
            refusesAll(engine, 0, 0, MISSING);
            Checks.no("matchesAll", engine.matchesAll(0));
            Checks.no("matchesAllByThreads", engine.matchesAllByThreads(0));
            Checks.yes("isConsistent", engine.isConsistent());
            Checks.same("matchCount", engine.matchCount(0), 0);
        }
        found("(((((a)+)+)+)+)+", MANY, 0, 0, 40);
        found(Engines.repeated("a?", 14) + "a", MANY, 30, 30, 40);
        found(Engines.repeated("|", 30), MANY, 40, 40, 40);
    }
}
