/** The boundaries of promises 21 to 29: what a pattern matches, which way is preferred, and its groups. */
public final class MatchEdgeTests {
    private static final String FORTY = "a".repeat(40);

    /** The start and the end of a match, once by backtracking and once by threads. */
    private record Search(String start, int startPromise, String end, int endPromise) {
    }

    private static final Search[] SEARCHES = {new Search("find", 23, "findEnd", 24),
        new Search("findByThreads", 25, "findEndByThreads", 26)};

    public static void main(String[] arguments) {
        wholeTexts();
        otherWays();
        atoms();
        repeats();
        branches();
        preference();
        places();
        noMatches();
        setGroups();
        groupNumbers();
        repeatedGroups();
        emptyGroups();
        lostGroups();
        laterSearches();
        manyWays();
        Checks.end();
    }

    private static void wholeTexts() {
        whole("the empty pattern, the empty text", "", "", true);
        whole("the empty pattern, one character", "", "a", false);
        whole("one character, the empty text", "a", "", false);
        whole("the whole text and no more", "abc", "abc", true);
        whole("one character less than the text", "ab", "abc", false);
        whole("one character more than the text", "abcd", "abc", false);
        whole("not from position 1 on", "bc", "abc", false);
        whole("40 characters", ".*", FORTY, true);
        whole("all but the last of 40 characters", "a*", "a".repeat(39) + "b", false);
        whole("at most 15 characters of 15", "a?".repeat(15), "a".repeat(15), true);
        whole("at most 15 characters of 16", "a?".repeat(15), "a".repeat(16), false);
    }

    private static void otherWays() {
        whole("the preferred way ends too early", "a|ab", "ab", true);
        whole("the preferred way is empty", "|ab", "ab", true);
        whole("the preferred way of the second item ends too early", "a(|b)", "ab", true);
        whole("the preferred repeats take too much", "a*ab?", "aa", true);
        whole("no way ends at the end", "(a|ab)(c|bcd)", "abcdd", false);
        whole("the last of many ways", "(a|ab)(c|bcd)(d*)", "abcd", true);
    }

    private static void whole(String sentence, String pattern, String text, boolean due) {
        Run.test("promise 21: matchesAll, " + sentence, run -> run
                .patterns(pattern).text(text)
                .due(due, "matchesAll", 0));
        Run.test("promise 22: matchesAllByThreads, " + sentence, run -> run
                .patterns(pattern).text(text)
                .due(due, "matchesAllByThreads", 0));
    }

    private static void found(String sentence, String pattern, String text, int from, int start, int end) {
        for (Search search : SEARCHES) {
            Run.test("promise " + search.startPromise + ": " + search.start + ", " + sentence, run -> run
                    .patterns(pattern).text(text)
                    .due(start, search.start, 0, from));
            Run.test("promise " + search.endPromise + ": " + search.end + ", " + sentence, run -> run
                    .patterns(pattern).text(text)
                    .due(end, search.end, 0, from));
        }
    }

    private static void missing(String sentence, String pattern, String text, int from) {
        for (Search search : SEARCHES) {
            Run.test("promise " + search.startPromise + ": " + search.start + ", " + sentence, run -> run
                    .patterns(pattern).text(text)
                    .refuses(Run.MISSING, search.start, 0, from));
            Run.test("promise " + search.endPromise + ": " + search.end + ", " + sentence, run -> run
                    .patterns(pattern).text(text)
                    .refuses(Run.MISSING, search.end, 0, from));
        }
    }

    private static void atoms() {
        found("a character matches itself alone", "b", "acB b", 0, 4, 5);
        found("a digit", "0", "o90", 0, 2, 3);
        found("a space", " ", "a b", 0, 1, 2);
        found("\".\" matches the character with code 32", ".", " ", 0, 0, 1);
        found("\".\" matches the character with code 126", ".", "~", 0, 0, 1);
        missing("\".\" does not match the end", ".", "", 0);
        found("the first character of a list", "[bcd]", "ab", 0, 1, 2);
        found("the last character of a list", "[bcd]", "ad", 0, 1, 2);
        missing("no character of a list", "[bcd]", "ae B", 0);
        missing("the first character of a list with ^", "[^bcd]", "b", 0);
        missing("the last character of a list with ^", "[^bcd]", "d", 0);
        found("a character outside a list with ^", "[^bcd]", "bcde", 0, 3, 4);
        found("a list with ^ matches what no pattern can name", "[^a]", "a~", 0, 1, 2);
        missing("a list with ^ does not match the end", "[^b]", "", 0);
        missing("the brackets are not in the list", "[ab]", "[]^", 0);
        missing("the ^ is not in the list", "[^a]", "a", 0);
        found("the ^ is outside the list", "[^a]", "^", 0, 0, 1);
        found("a list behind one with ^", "[^a][b]", "abcb", 0, 2, 4);
        found("a list with ^ behind one without", "[a][^b]", "abac", 0, 2, 4);
        found("the last character of a long list", "[abcdefghijklmnopqrstuvwxyz01]", "98721", 0, 4, 5);
    }

    private static void repeats() {
        found("\"*\" no time", "ab*c", "ac", 0, 0, 2);
        found("\"*\" once", "ab*c", "abc", 0, 0, 3);
        found("\"*\" 38 times", "ab*c", "a" + "b".repeat(38) + "c", 0, 0, 40);
        missing("\"+\" no time", "ab+c", "ac", 0);
        found("\"+\" once", "ab+c", "abc", 0, 0, 3);
        found("\"+\" 38 times", "ab+c", "a" + "b".repeat(38) + "c", 0, 0, 40);
        found("\"?\" no time", "ab?c", "ac", 0, 0, 2);
        found("\"?\" once", "ab?c", "abc", 0, 0, 3);
        missing("\"?\" twice", "ab?c", "abbc", 0);
        found("\"?\" of a group, no time", "a(bc)?d", "ad", 0, 0, 2);
        found("a repeat takes the atom before it alone", "ab*", "abab", 0, 0, 2);
        found("a repeat of a group takes all of it", "(ab)*", "ababa", 0, 0, 4);
    }

    private static void branches() {
        found("the first branch", "ab|cd|ef", "ab", 0, 0, 2);
        found("the last branch", "ab|cd|ef", "ef", 0, 0, 2);
        found("an empty branch at the end", "ab|", "cd", 0, 0, 0);
        found("an empty branch at the start", "|ab", "ab", 0, 0, 0);
        found("an empty branch in a group", "a(b|)c", "ac", 0, 0, 2);
        found("a branch goes to the ends of the pattern", "ab|cd", "acd", 0, 1, 3);
        found("a branch goes to the ends of its group", "a(b|c)d", "acd", 0, 0, 3);
    }

    private static void preference() {
        found("an earlier branch though it is shorter", "a|ab", "ab", 0, 0, 1);
        found("an earlier branch though it is longer", "ab|a", "ab", 0, 0, 2);
        found("one more repetition with \"*\"", "a*", "aaa", 0, 0, 3);
        found("one more repetition with \"+\"", "a+", "aaa", 0, 0, 3);
        found("one more repetition with \"?\"", "a?", "aaa", 0, 0, 1);
        found("less repetitions where the rest needs it", "a*ab", "aaab", 0, 0, 4);
        found("the first choice decides, the later ones do not", "(a|ab)(c|bcd)?", "abcd", 0, 0, 4);
        found("the first choice is not given up for a longer match", "(a|ab)c?", "abc", 0, 0, 1);
        found("a repetition whose branch ends early", "(a|ab)*", "abab", 0, 0, 1);
        found("an empty repetition with \"?\" before none", "(|a)?b?", "ab", 0, 0, 0);
        found("the earlier position though a later match is longer", "a|bbb", "abbb", 0, 0, 1);
        found("the earlier position though its branch is a later one", "b|a", "ab", 0, 0, 1);
    }

    private static void places() {
        found("a match at the position itself", "a", "aaa", 1, 1, 2);
        found("no match before the position", "a", "abba", 1, 3, 4);
        found("a match from position 0", "ab", "ab", 0, 0, 2);
        found("a match of the last character", "a", "bba", 0, 2, 3);
        found("an empty match at position 0", "", "ab", 0, 0, 0);
        found("an empty match at the end", "", "ab", 2, 2, 2);
        found("an empty match behind the last character", "a|", "ba", 2, 2, 2);
        found("an empty match in the empty text", "", "", 0, 0, 0);
        found("an empty match before a longer one", "a*", "baa", 0, 0, 0);
        found("a match from inside what would be a longer one", "a*", "aaaa", 3, 3, 4);
        found("the last of 40 characters", "a", FORTY, 39, 39, 40);
        found("the end of a text of 40", "a*", FORTY, 40, 40, 40);
        found("all of 40 characters", "a+", FORTY, 0, 0, 40);
    }

    private static void noMatches() {
        missing("the text is one character too short", "aaaa", "aaa", 0);
        missing("the rest of the text is too short", "aa", "aaa", 2);
        missing("the only match is before the position", "a", "ab", 1);
        missing("the end of a text of 40", "a", FORTY, 40);
        missing("30 characters of which the last differs", "a".repeat(29) + "b", "a".repeat(30), 0);
    }

    private static void setGroups() {
        set("a group that takes part", "(a)", "ba", 1, 1, 2);
        set("a group that starts at position 0", "(a)b", "ab", 1, 0, 1);
        set("a group that ends at the end", "a(b)", "ab", 1, 1, 2);
        set("a group of 40 characters", "(a*)", FORTY, 1, 0, 40);
        set("a group that is empty at the end of 40", "a*()", FORTY, 1, 40, 40);
        unset("a group of another branch", "(a)|b", "b", 1);
        unset("a group with \"?\" no time", "(a)?b", "b", 1);
        unset("a group with \"*\" no time", "(a)*b", "b", 1);
        unset("a group inside one that is not set", "((a))?b", "b", 2);
    }

    private static void set(String sentence, String pattern, String text, int group, int start, int end) {
        Run.test("promise 27: set, " + sentence, run -> run
                .patterns(pattern).text(text)
                .due(true, "isGroupSet", 0, 0, group));
        Run.test("promise 28: the start of " + sentence, run -> run
                .patterns(pattern).text(text)
                .due(start, "groupStart", 0, 0, group));
        Run.test("promise 29: the end of " + sentence, run -> run
                .patterns(pattern).text(text)
                .due(end, "groupEnd", 0, 0, group));
    }

    private static void unset(String sentence, String pattern, String text, int group) {
        Run.test("promise 27: not set, " + sentence, run -> run
                .patterns(pattern).text(text)
                .due(false, "isGroupSet", 0, 0, group));
        Run.test("promise 28: no start of " + sentence, run -> run
                .patterns(pattern).text(text)
                .refuses(Run.MISSING, "groupStart", 0, 0, group));
        Run.test("promise 29: no end of " + sentence, run -> run
                .patterns(pattern).text(text)
                .refuses(Run.MISSING, "groupEnd", 0, 0, group));
    }

    private static void groupNumbers() {
        set("the first of 5 groups inside one another", "(a(b(c(d(e)))))", "abcde", 1, 0, 5);
        set("the last of 5 groups inside one another", "(a(b(c(d(e)))))", "abcde", 5, 4, 5);
        set("a group by its opening bracket, not its closing one", "((a)b)c", "abc", 2, 0, 1);
        set("the last of 5 groups in a row", "(a)(b)(c)(d)(e)", "abcde", 5, 4, 5);
        set("a group behind one that is not set", "(x)?(a)", "a", 2, 0, 1);
        set("a group of the second branch", "(a)|(b)", "b", 2, 0, 1);
    }

    private static void repeatedGroups() {
        set("the latest repetition with \"*\"", "(a|b)*", "aab", 1, 2, 3);
        set("the latest repetition with \"+\"", "(ab?)+", "abaab", 1, 3, 5);
        set("the only repetition", "(a)+", "a", 1, 0, 1);
        set("an earlier repetition of what is around it", "((a)|b)*", "ab", 2, 0, 1);
        set("an earlier repetition, twice before", "((a)|b)+", "aabb", 2, 1, 2);
        set("an earlier repetition of a group with \"?\"", "(a(b)?)+", "aba", 2, 1, 2);
        set("the latest repetition though an earlier one was longer", "(a+|b)*", "aaab", 1, 3, 4);
        unset("a group that no repetition reached", "((a)|b)*", "bb", 2);
    }

    private static void emptyGroups() {
        set("an empty group", "()", "a", 1, 0, 0);
        set("an empty group with \"?\"", "()?", "a", 1, 0, 0);
        set("a group with \"?\" that can only be empty here", "(a*)?b", "b", 1, 0, 0);
        set("an empty branch that is preferred", "(|a)b?", "ab", 1, 0, 0);
        set("an empty group in the empty text", "(a?)", "", 1, 0, 0);
        set("a group inside an empty repetition", "((a?)?)?", "b", 2, 0, 0);
        unset("a group inside a repetition that is empty without it", "((a)?)?", "b", 2);
    }

    private static void lostGroups() {
        unset("a group of a branch that failed", "(a)b|ac", "ac", 1);
        unset("a group of a way that was given up", "((a)b|a)c", "ac", 2);
        set("a group that got another place at last", "(a*)(a*b)", "aab", 1, 0, 2);
        set("a group of a repetition that was given back", "(a)*ab", "aaab", 1, 1, 2);
        unset("a group whose only repetition was given back", "(a)?ab", "ab", 1);
        unset("a group of a match that failed at an earlier position", "(a)x|b", "ab", 1);
        Run.test("promise 27: the match from the position on, not an earlier one", run -> run
                .patterns("(a)|b").text("ab")
                .due(true, "isGroupSet", 0, 0, 1)
                .due(false, "isGroupSet", 0, 1, 1));
        Run.test("promise 28: the match from the position on, not an earlier one", run -> run
                .patterns("(a)|b").text("aba")
                .due(0, "groupStart", 0, 0, 1)
                .refuses(Run.MISSING, "groupStart", 0, 1, 1)
                .due(2, "groupStart", 0, 2, 1));
        Run.test("promise 29: the match from the position on, not an earlier one", run -> run
                .patterns("(a)|b").text("aba")
                .due(1, "groupEnd", 0, 0, 1)
                .refuses(Run.MISSING, "groupEnd", 0, 1, 1)
                .due(3, "groupEnd", 0, 2, 1));
    }

    /** What a search has tried and found must not reach the next one. */
    private static void laterSearches() {
        String[][] faces = {{"21", "matchesAll"}, {"22", "matchesAllByThreads"}};
        for (String[] face : faces) {
            Run.test("promise " + face[0] + ": " + face[1] + " after other searches", run -> run
                    .patterns("a*b", "ab", "b", "(a|b)*").text("aab")
                    .due(true, face[1], 0)
                    .due(false, face[1], 1)
                    .due(true, face[1], 3)
                    .due(2, "find", 2, 0).due(2, "findByThreads", 2, 0)
                    .due(true, face[1], 0)
                    .due(false, face[1], 2));
        }
        for (Search search : SEARCHES) {
            Run.test("promise " + search.startPromise + ": " + search.start + " after other searches", run -> run
                    .patterns("b", "ab", "x").text("aab")
                    .due(2, search.start, 0, 0)
                    .due(1, search.start, 1, 0)
                    .refuses(Run.MISSING, search.start, 2, 0)
                    .refuses(Run.MISSING, search.start, 1, 2)
                    .due(2, search.start, 0, 0));
            Run.test("promise " + search.endPromise + ": " + search.end + " after other searches", run -> run
                    .patterns("a", "a*", "x").text("aab")
                    .due(1, search.end, 0, 0)
                    .due(2, search.end, 1, 0)
                    .refuses(Run.MISSING, search.end, 2, 0)
                    .due(3, search.end, 1, 3)
                    .due(1, search.end, 0, 0));
        }
        Run.test("promise 27: a group that another search set", run -> run
                .patterns("(a)", "(b)?a").text("a")
                .due(true, "isGroupSet", 0, 0, 1)
                .due(false, "isGroupSet", 1, 0, 1));
    }

    /** A search that tries every way, or keeps no room for the last one, does not find these. */
    private static void manyWays() {
        String text = "a".repeat(39) + "c";
        found("a match behind more ways than can be tried", "((a|a)+)+b|a+c", text, 0, 0, 40);
        found("a match behind more threads than there are steps", "(a|a)*(a|a)*b|.+c", text, 0, 0, 40);
        found("a match at the last position, behind many ways", "(a+)+(a|a)+b|c", text, 0, 39, 40);
        missing("no match, and more ways than can be tried", "((((a+)+)+)+)+b", text, 0);
        whole("a way behind more ways than can be tried", "((a|a)+)+b|a+c", text, true);
        whole("no way among more than can be tried", "((a|a)+)+", text, false);
        set("a group behind more ways than can be tried", "((a|a)+)+b|a+(c)", text, 3, 39, 40);
        unset("a group of more ways than can be tried", "((a|a)+)+b|a+(c)", text, 1);
    }
}
