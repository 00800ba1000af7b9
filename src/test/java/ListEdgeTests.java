/** The boundaries of promises 30 to 38: the list of matches and what is made of it. */
public final class ListEdgeTests {
    private static final String FORTY = "a".repeat(40);

    public static void main(String[] arguments) {
        listed();
        emptyMatches();
        fullLists();
        laterLists();
        longest();
        matched();
        ranks();
        ties();
        noRanks();
        means();
        coverages();
        consistent();
        Checks.end();
    }

    /** Each match is given by its start and its length. */
    private static void listed(String sentence, String pattern, String text, int[]... matches) {
        Run.test("promise 30: the number of matches, " + sentence, run -> run
                .patterns(pattern).text(text)
                .due(matches.length, "matchCount", 0));
        Run.test("promise 31: the starts of the matches, " + sentence, run -> {
            run.patterns(pattern).text(text);
            for (int match = 0; match < matches.length; match++) {
                run.due(matches[match][0], "matchStart", 0, match);
            }
            run.refuses(Run.MISSING, "matchStart", 0, matches.length);
        });
        Run.test("promise 32: the lengths of the matches, " + sentence, run -> {
            run.patterns(pattern).text(text);
            for (int match = 0; match < matches.length; match++) {
                run.due(matches[match][1], "matchLength", 0, match);
            }
            run.refuses(Run.MISSING, "matchLength", 0, matches.length);
        });
    }

    private static int[] at(int start, int length) {
        return new int[] {start, length};
    }

    private static void listed() {
        listed("none", "x", "ab");
        listed("none in the empty text", "a", "");
        listed("one", "b", "abc", at(1, 1));
        listed("one of the whole text", "abc", "abc", at(0, 3));
        listed("the next one begins at the end of the one before", "ab", "abab", at(0, 2), at(2, 2));
        listed("none begins inside the one before", "aba", "ababa", at(0, 3));
        listed("what is left is too short", "aa", "aaa", at(0, 2));
        listed("what lies between them", "a+", "aabaab", at(0, 2), at(3, 2));
        listed("one of 40 characters", "a+", FORTY, at(0, 40));
    }

    private static void emptyMatches() {
        listed("an empty one in the empty text", "", "", at(0, 0));
        listed("after an empty one from its end plus 1 on", "", "ab", at(0, 0), at(1, 0), at(2, 0));
        listed("an empty one at the end of the one before", "a*", "aab", at(0, 2), at(2, 0), at(3, 0));
        listed("an empty one at the end of the text", "a*", "aa", at(0, 2), at(2, 0));
        listed("after an empty one the next is not empty", "a*", "baa", at(0, 0), at(1, 2), at(3, 0));
        listed("an empty one hides the one that begins there", "|a", "a", at(0, 0), at(1, 0));
        listed("no empty one where none is left", "a+", "aa", at(0, 2));
    }

    private static void fullLists() {
        Run.test("promise 30: 41 empty matches", run -> run
                .patterns("").text(FORTY)
                .due(41, "matchCount", 0));
        Run.test("promise 30: 40 matches of one character", run -> run
                .patterns("a").text(FORTY)
                .due(40, "matchCount", 0));
        Run.test("promise 30: 40 matches of one character and an empty one", run -> run
                .patterns("a|").text(FORTY)
                .due(41, "matchCount", 0));
        Run.test("promise 31: the last of 41 matches", run -> run
                .patterns("").text(FORTY)
                .due(39, "matchStart", 0, 39).due(40, "matchStart", 0, 40));
        Run.test("promise 32: the last two of 41 matches", run -> run
                .patterns("a|").text(FORTY)
                .due(1, "matchLength", 0, 39).due(0, "matchLength", 0, 40));
        Run.test("promise 32: a match of 40 characters", run -> run
                .patterns(".*").text(FORTY)
                .due(40, "matchLength", 0, 0));
    }

    /** A list must not keep anything of the one that was made before it. */
    private static void laterLists() {
        Run.test("promise 30: the number of matches after a longer list", run -> run
                .patterns("a").text(FORTY).due(40, "matchCount", 0).text("ba")
                .due(1, "matchCount", 0));
        Run.test("promise 31: the start of a match after a longer list", run -> run
                .patterns("a").text(FORTY).due(39, "matchStart", 0, 39).text("ba")
                .due(1, "matchStart", 0, 0)
                .refuses(Run.MISSING, "matchStart", 0, 1));
        Run.test("promise 32: the length of a match after another list", run -> run
                .patterns("a", "a+").text("aaa")
                .due(1, "matchLength", 0, 0)
                .due(3, "matchLength", 1, 0)
                .due(1, "matchLength", 0, 2));
        Run.test("promise 33: the longest match after another list", run -> run
                .patterns("a", "a+").text("abaa")
                .due(0, "longestMatch", 0)
                .due(1, "longestMatch", 1)
                .due(0, "longestMatch", 0));
        Run.test("promise 34: the matched characters after another list", run -> run
                .patterns(".", "b", "x").text("abab")
                .due(4, "matchedCharacters", 0)
                .due(2, "matchedCharacters", 1)
                .due(0, "matchedCharacters", 2));
        Run.test("promise 36: the mean after another list", run -> run
                .patterns(".*b", "a").text("abab")
                .due(4.0, "meanMatchLength", 0)
                .due(1.0, "meanMatchLength", 1));
        Run.test("promise 37: the share after another list", run -> run
                .patterns(".*b", "a").text("abab")
                .due(1.0f, "coverage", 0)
                .due(0.5f, "coverage", 1));
    }

    private static void longest() {
        longest("the only one", "a", "a", 0);
        longest("the first one", "a+", "aaa a aa", 0);
        longest("the last one", "a+", "a aa aaa", 2);
        longest("the first of several", "a+", "a aa a aa", 1);
        longest("the first where all are as long", "a", "aaa", 0);
        longest("the first where all are empty", "", "abc", 0);
        longest("the empty one of the empty text", "a*", "", 0);
        longest("one behind an empty one", "a*", "ba", 1);
        longest("the last of 41", "bb|", "a".repeat(38) + "bb", 38);
        Run.test("promise 33: no longest match where there is none", run -> run
                .patterns("x").text("abc")
                .refuses(Run.MISSING, "longestMatch", 0));
        Run.test("promise 33: no longest match in the empty text", run -> run
                .patterns("a")
                .refuses(Run.MISSING, "longestMatch", 0));
    }

    private static void longest(String sentence, String pattern, String text, int due) {
        Run.test("promise 33: the longest match is " + sentence, run -> run
                .patterns(pattern).text(text)
                .due(due, "longestMatch", 0));
    }

    private static void matched() {
        matched("none where there is no match", "x", "abc", 0);
        matched("none where all matches are empty", "", "abc", 0);
        matched("none in the empty text", "a*", "", 0);
        matched("all of the text", ".*", "abc", 3);
        matched("all of 40 characters", "a", FORTY, 40);
        matched("those of each match", "a+", "aabaaab", 5);
        matched("no character twice", "aa", "aaaaa", 4);
    }

    private static void matched(String sentence, String pattern, String text, int due) {
        Run.test("promise 34: the matched characters are " + sentence, run -> run
                .patterns(pattern).text(text)
                .due(due, "matchedCharacters", 0));
    }

    private static void ranks() {
        Run.test("promise 35: the only rank", run -> run
                .patterns("a")
                .due(0, "patternByMatches", 0));
        Run.test("promise 35: from the most matches to the fewest", run -> run
                .patterns("a", "b", "c").text("abbccc")
                .due(2, "patternByMatches", 0).due(1, "patternByMatches", 1).due(0, "patternByMatches", 2));
        Run.test("promise 35: no match comes last", run -> run
                .patterns("x", "a").text("a")
                .due(1, "patternByMatches", 0).due(0, "patternByMatches", 1));
        Run.test("promise 35: 41 matches come before 40", run -> run
                .patterns("a", "").text(FORTY)
                .due(1, "patternByMatches", 0).due(0, "patternByMatches", 1));
        Run.test("promise 35: the number of matches counts, not their length", run -> run
                .patterns("a+", "b").text("aaabb")
                .due(1, "patternByMatches", 0).due(0, "patternByMatches", 1));
    }

    private static void ties() {
        Run.test("promise 35: the smaller index comes first where all are equal", run -> run
                .patterns("d", "c", "b", "a").text("abcd")
                .due(0, "patternByMatches", 0).due(1, "patternByMatches", 1)
                .due(2, "patternByMatches", 2).due(3, "patternByMatches", 3));
        Run.test("promise 35: the smaller index comes first where two are equal", run -> run
                .patterns("x", "a", "b", "a").text("abab")
                .due(1, "patternByMatches", 0).due(2, "patternByMatches", 1)
                .due(3, "patternByMatches", 2).due(0, "patternByMatches", 3));
        Run.test("promise 35: the smaller index comes first where none matches", run -> run
                .patterns("x", "y").text("a")
                .due(0, "patternByMatches", 0).due(1, "patternByMatches", 1));
    }

    private static void noRanks() {
        Run.test("promise 35: no rank before 0", run -> run
                .patterns("a", "b")
                .refuses(Run.MISSING, "patternByMatches", -1)
                .refuses(Run.MISSING, "patternByMatches", Integer.MIN_VALUE));
        Run.test("promise 35: no rank behind the last of 2", run -> run
                .patterns("a", "b")
                .due(1, "patternByMatches", 1)
                .refuses(Run.MISSING, "patternByMatches", 2)
                .refuses(Run.MISSING, "patternByMatches", Integer.MAX_VALUE));
        Run.test("promise 35: no rank behind the last of 4", run -> run
                .patterns("a", "b", "c", "d")
                .due(3, "patternByMatches", 3)
                .refuses(Run.MISSING, "patternByMatches", 4));
        Run.test("promise 35: no rank without patterns", run -> run
                .text("a")
                .refuses(Run.MISSING, "patternByMatches", 0));
        Run.test("promise 35: no rank of a pattern that was removed", run -> run
                .patterns("a", "b").does("removePattern", 0)
                .due(0, "patternByMatches", 0)
                .refuses(Run.MISSING, "patternByMatches", 1));
    }

    private static void means() {
        mean("of one match", "a+", "aaa", 3.0);
        mean("that is no whole number", "a+", "aa a", 1.5);
        mean("of a third in double", "a+", "a a aa", 4.0 / 3.0);
        mean("of empty matches", "", "ab", 0.0);
        mean("of an empty match in the empty text", "a*", "", 0.0);
        mean("of a match of 40 characters", "a+", FORTY, 40.0);
        mean("of 40 characters in 41 matches", "a|", FORTY, 40.0 / 41.0);
        Run.test("promise 36: no mean where there is no match", run -> run
                .patterns("x").text("abc")
                .refuses(Run.ARITHMETIC, "meanMatchLength", 0));
        Run.test("promise 36: no mean where there is no match in the empty text", run -> run
                .patterns("a")
                .refuses(Run.ARITHMETIC, "meanMatchLength", 0));
        Run.test("promise 36: no such pattern though there would be no match", run -> run
                .patterns("a")
                .refuses(Run.OUTSIDE, "meanMatchLength", 1));
    }

    private static void mean(String sentence, String pattern, String text, double due) {
        Run.test("promise 36: the mean " + sentence, run -> run
                .patterns(pattern).text(text)
                .due(due, "meanMatchLength", 0));
    }

    private static void coverages() {
        coverage("of no match", "x", "abc", 0.0f);
        coverage("of empty matches", "", "abc", 0.0f);
        coverage("of the whole text", ".*", "abc", 1.0f);
        coverage("of a third in float", "a", "abc", 1.0f / 3.0f);
        coverage("of two thirds in float", "a", "aba", 2.0f / 3.0f);
        coverage("of 40 characters", "a", FORTY, 1.0f);
        coverage("of 1 in 40 characters", "b", "b" + "a".repeat(39), 1.0f / 40.0f);
        coverage("of a text of one character", "a", "a", 1.0f);
        Run.test("promise 37: no share of the empty text", run -> run
                .patterns("a", "")
                .refuses(Run.ARITHMETIC, "coverage", 0)
                .refuses(Run.ARITHMETIC, "coverage", 1));
        Run.test("promise 37: no share of a text that became empty", run -> run
                .patterns("a").text("ab").does("deleteText", 0, 2)
                .refuses(Run.ARITHMETIC, "coverage", 0));
        Run.test("promise 37: no such pattern comes before an empty text", run -> run
                .patterns("a")
                .refuses(Run.OUTSIDE, "coverage", 1)
                .refuses(Run.OUTSIDE, "coverage", -1));
    }

    private static void coverage(String sentence, String pattern, String text, float due) {
        Run.test("promise 37: the share " + sentence, run -> run
                .patterns(pattern).text(text)
                .due(due, "coverage", 0));
    }

    private static void consistent() {
        Run.test("promise 38: no patterns, the empty text", run -> run.due(true, "isConsistent"));
        Run.test("promise 38: no patterns", run -> run.text("ab").due(true, "isConsistent"));
        Run.test("promise 38: the empty text", run -> run
                .patterns("", "a", "a*", "(|a)?")
                .due(true, "isConsistent"));
        Run.test("promise 38: no match at any position", run -> run
                .patterns("x", "ab").text("aaa")
                .due(true, "isConsistent"));
        Run.test("promise 38: a match at some positions only", run -> run
                .patterns("ab|b", "a").text("abc")
                .due(true, "isConsistent"));
        Run.test("promise 38: 4 patterns, 40 characters", run -> run
                .patterns("", "(a|ab)*b?", "(a?b|a)+|c", "|".repeat(30)).text("ab".repeat(20))
                .due(true, "isConsistent"));
    }
}
