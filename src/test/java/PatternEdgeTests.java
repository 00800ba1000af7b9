/** The boundaries of promises 6 to 13: what is told of a pattern, and of a fault. */
public final class PatternEdgeTests {
    public static void main(String[] arguments) {
        lengths();
        characters();
        groups();
        shortest();
        longest();
        noLongest();
        noFault();
        faultPositions();
        faultKinds();
        faultDepths();
        latestFault();
        Checks.end();
    }

    private static void lengths() {
        Run.test("promise 6: the length of the empty pattern", run -> run
                .patterns("")
                .due(0, "patternLength", 0));
        Run.test("promise 6: the length of a pattern of 30 characters", run -> run
                .patterns("a".repeat(30))
                .due(30, "patternLength", 0));
        Run.test("promise 6: every typed character counts", run -> run
                .patterns("([^ab]*|.)")
                .due(10, "patternLength", 0));
        Run.test("promise 6: what is in the buffer does not count", run -> run
                .patterns("ab").typesPattern("c")
                .due(2, "patternLength", 0));
    }

    private static void characters() {
        Run.test("promise 7: the first character and what is before it", run -> run
                .patterns("(a|9)* ")
                .due('(', "patternCharacter", 0, 0)
                .refuses(Run.OUTSIDE, "patternCharacter", 0, -1)
                .refuses(Run.OUTSIDE, "patternCharacter", 0, Integer.MIN_VALUE));
        Run.test("promise 7: the last character and what is behind it", run -> run
                .patterns("(a|9)* ")
                .due(' ', "patternCharacter", 0, 6)
                .refuses(Run.OUTSIDE, "patternCharacter", 0, 7)
                .refuses(Run.OUTSIDE, "patternCharacter", 0, Integer.MAX_VALUE));
        Run.test("promise 7: the empty pattern has no character", run -> run
                .patterns("", "a")
                .refuses(Run.OUTSIDE, "patternCharacter", 0, 0)
                .refuses(Run.OUTSIDE, "patternCharacter", 0, -1));
        Run.test("promise 7: the 30th character and the 31st", run -> run
                .patterns("a".repeat(29) + "z")
                .due('a', "patternCharacter", 0, 28)
                .due('z', "patternCharacter", 0, 29)
                .refuses(Run.OUTSIDE, "patternCharacter", 0, 30));
        Run.test("promise 7: a shorter pattern does not show a longer one", run -> run
                .patterns("abc", "d").does("removePattern", 0)
                .due('d', "patternCharacter", 0, 0)
                .refuses(Run.OUTSIDE, "patternCharacter", 0, 1));
    }

    private static void groups() {
        counted("none", "[a]b*", 0);
        counted("none in the empty pattern", "", 0);
        counted("one that is empty", "()", 1);
        counted("5 in a row", "()()()()()", 5);
        counted("5 inside one another", "(((((a)))))", 5);
        counted("those of all branches", "(a)|(b(c))|d", 3);
        counted("one that is repeated, once", "(a)*", 1);
    }

    private static void counted(String sentence, String pattern, int due) {
        Run.test("promise 8: groups, " + sentence, run -> run
                .patterns(pattern)
                .due(due, "groupCount", 0));
    }

    private static void shortest() {
        shortest("of the empty pattern", "", 0);
        shortest("of 30 characters", "a".repeat(30), 30);
        shortest("of a character, \".\" and square brackets", "a.[bc][^d]", 4);
        shortest("of \"*\"", "ab*", 1);
        shortest("of \"+\"", "ab+", 2);
        shortest("of \"?\"", "ab?", 1);
        shortest("where the first branch is the shortest", "a|bc", 1);
        shortest("where the last branch is the shortest", "abc|de|f", 1);
        shortest("with an empty branch", "ab|", 0);
        shortest("of a group that is repeated", "(ab)+(cd)*(ef)?", 2);
        shortest("of branches in a group", "a(bcd|ef)g", 4);
        shortest("of a group that is empty", "()", 0);
    }

    private static void shortest(String sentence, String pattern, int due) {
        Run.test("promise 9: the shortest text " + sentence, run -> run
                .patterns(pattern)
                .due(due, "minimumLength", 0));
    }

    private static void longest() {
        longest("of the empty pattern", "", 0);
        longest("of 30 characters", "a".repeat(30), 30);
        longest("of a character, \".\" and square brackets", "a.[bc][^d]", 4);
        longest("of \"?\"", "ab?", 2);
        longest("where the first branch is the longest", "abc|de|f", 3);
        longest("where the last branch is the longest", "|a|bc", 2);
        longest("of a group with \"?\"", "(ab)?c", 3);
        longest("of branches in a group", "a(bcd|ef)g", 5);
        longest("of a group that is empty", "()?", 0);
    }

    private static void longest(String sentence, String pattern, int due) {
        Run.test("promise 10: the longest text " + sentence, run -> run
                .patterns(pattern)
                .due(due, "maximumLength", 0));
    }

    private static void noLongest() {
        String[] patterns = {"a*", "a+", ".*", "[a]+", "(a)*", "(a+)?", "a|b*|c", "((a+))", "a".repeat(29) + "+",
            "(((((a)+)+)+)+)+", "a+".repeat(15)};
        for (String pattern : patterns) {
            Run.test("promise 10: no longest text of " + pattern, run -> run
                    .patterns(pattern)
                    .refuses(Run.MISSING, "maximumLength", 0));
        }
        Run.test("promise 10: the text has no part in it", run -> run
                .patterns("a", "a*").text("bbb")
                .due(1, "maximumLength", 0)
                .refuses(Run.MISSING, "maximumLength", 1));
    }

    private static void noFault() {
        String[][] faces = {{"11", "faultPosition"}, {"12", "faultKind"}, {"13", "faultDepth"}};
        for (String[] face : faces) {
            Run.test("promise " + face[0] + ": " + face[1] + ", no pattern at all", run -> run
                    .refuses(Run.MISSING, face[1]));
            Run.test("promise " + face[0] + ": " + face[1] + ", all patterns were valid", run -> run
                    .patterns("a", "")
                    .refuses(Run.MISSING, face[1]));
            Run.test("promise " + face[0] + ": " + face[1] + ", what is not valid is not compiled yet", run -> run
                    .typesPattern("(*")
                    .refuses(Run.MISSING, face[1]));
            Run.test("promise " + face[0] + ": " + face[1] + ", compile with 4 patterns", run -> run
                    .patterns("a", "b", "c", "d").typesPattern("*")
                    .refusesAndEmpties(Remains.PATTERN_BUFFER, Run.STATE, "compile")
                    .refuses(Run.MISSING, face[1]));
        }
    }

    private static void faultPositions() {
        position("the first character", ")", 0);
        position("the last character", "abc)", 3);
        position("the last of 30 characters", "a".repeat(29) + ")", 29);
        position("the length of a pattern that ends too early", "(a", 2);
        position("the length of a pattern of 30 characters", "a".repeat(29) + "(", 30);
        position("the length, where only 30 characters hinder the end", "(((((" + "a".repeat(25), 30);
        position("the length behind [", "[", 1);
        position("the length behind [^", "[^", 2);
        position("the length behind an open list", "[ab", 3);
        position("the first of two", "a)*", 1);
        position("the repeat, not the group that can be empty", "(a*)*", 4);
        position("the repeat, where a branch can be empty", "(ab|)+a", 5);
        position("the 6th opening bracket", "()(()(())(", 9);
        position("the closing bracket of an empty list", "a[]", 2);
    }

    private static void position(String sentence, String pattern, int due) {
        Run.test("promise 11: the fault position is " + sentence, run -> run
                .typesPattern(pattern).refusesAndFaults()
                .due(due, "faultPosition"));
    }

    private static void faultKinds() {
        kind("1 for \"*\"", "*", 1);
        kind("1 for \"+\"", "a|+", 1);
        kind("1 for \"?\"", "a??", 1);
        kind("1 for a repeat in square brackets", "[*", 1);
        kind("1 for a repeat of what can be empty", "(a?)+", 1);
        kind("2 for \")\"", ")", 2);
        kind("2 for \")\" in square brackets", "([a)", 2);
        kind("3 for a 6th \"(\"", "()()()()()(", 3);
        kind("3 for \"(\" in square brackets", "[(", 3);
        kind("4 for a character that no pattern has", "a-", 4);
        kind("4 for the character with code 0", "\0", 4);
        kind("4 for \"]\"", "]", 4);
        kind("4 for \"^\"", "^", 4);
        kind("4 for \"[\" in square brackets", "[[", 4);
        kind("4 for \"|\" in square brackets", "[|", 4);
        kind("4 for \".\" in square brackets", "[.", 4);
        kind("4 for a character with the low byte of \"*\"", "" + (char) (256 + '*'), 4);
        kind("5 for the end in a group", "(", 5);
        kind("5 for the end in square brackets", "[a", 5);
        kind("5 for the end of 30 characters", "(" + "a".repeat(28) + "*", 5);
        kind("5 for the end behind \"(\" in a full buffer", "a".repeat(29) + "(", 5);
    }

    private static void kind(String sentence, String pattern, int due) {
        Run.test("promise 12: the kind is " + sentence, run -> run
                .typesPattern(pattern).refusesAndFaults()
                .due(due, "faultKind"));
    }

    private static void faultDepths() {
        depth("0 without groups", "a**", 0);
        depth("0 behind groups that are closed", "(a)(b))", 0);
        depth("1 in a group", "(a", 1);
        depth("1 behind a group inside that is closed", "(a(b)*", 1);
        depth("5 in 5 groups", "(((((", 5);
        depth("5 at a 6th bracket, which is not before the position", "((((((", 5);
        depth("0 at a 6th bracket behind 5 that are closed", "()()()()()(", 0);
        depth("0 at a closing bracket too many", "(a))", 0);
        depth("1 at a repeat behind a group inside", "((a?)*)", 1);
        depth("1 in square brackets in a group", "([a", 1);
        depth("2 at a bracket in square brackets", "(([(", 2);
        depth("2 at the end of 30 characters", "((" + "a".repeat(28), 2);
        depth("1 though the group is closed later", "(a-b)", 1);
    }

    private static void depth(String sentence, String pattern, int due) {
        Run.test("promise 13: the depth is " + sentence, run -> run
                .typesPattern(pattern).refusesAndFaults()
                .due(due, "faultDepth"));
    }

    private static void latestFault() {
        String[][] faces = {{"11", "faultPosition", "2", "11"}, {"12", "faultKind", "5", "3"},
            {"13", "faultDepth", "1", "0"}};
        for (String[] face : faces) {
            String title = "promise " + face[0] + ": " + face[1] + ", ";
            Run.test(title + "a later fault takes the place of an earlier one", run -> run
                    .faults("2,5,1", "(a").due(face[2], face[1])
                    .faults("11,3,0", "()()()()()a(").due(face[3], face[1])
                    .faults("2,5,1", "(b").due(face[2], face[1]));
            Run.test(title + "a valid pattern leaves it", run -> run
                    .faults("2,5,1", "(a").patterns("a", "")
                    .due(face[2], face[1]));
            Run.test(title + "compile with 4 patterns leaves it", run -> run
                    .faults("2,5,1", "(a").patterns("a", "b", "c", "d").typesPattern("*")
                    .refusesAndEmpties(Remains.PATTERN_BUFFER, Run.STATE, "compile")
                    .due(face[2], face[1]));
            Run.test(title + "undo leaves it", run -> run
                    .patterns("a").faults("2,5,1", "(a")
                    .due(0, "undo")
                    .due(face[2], face[1]));
            Run.test(title + "a snapshot leaves it", run -> run
                    .does("saveSnapshot").faults("2,5,1", "(a")
                    .due(0, "restoreSnapshot")
                    .due(face[2], face[1]));
        }
    }
}
