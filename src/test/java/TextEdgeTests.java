/** The boundaries of promises 14 to 20: the text buffer and the text. */
public final class TextEdgeTests {
    private static final String OUTSIDE = Run.OUTSIDE;
    private static final String BUFFER = Remains.TEXT_BUFFER;
    private static final String FORTY = "abcdefgh".repeat(5);
    private static final int LEAST = Integer.MIN_VALUE;
    private static final int MOST = Integer.MAX_VALUE;
    private static final int[] WRONG_CODES = {0, 10, 31, 127, 128, 255, 256, 256 + 'a', 0x8000 + 'a', 0xffff};

    public static void main(String[] arguments) {
        typedCodes();
        typedForty();
        setText();
        insertedPlaces();
        insertedForty();
        emptiedBuffer();
        deleted();
        deleteRefused();
        replaced();
        replacedForty();
        replacedTwice();
        replacedOrder();
        lengths();
        characters();
        Checks.end();
    }

    private static void typedCodes() {
        Run.test("promise 14: the first code, 32", run -> run
                .due(1, "typeText", 32)
                .does("setText").due(' ', "textCharacter", 0));
        Run.test("promise 14: the last code, 126", run -> run
                .due(1, "typeText", 126)
                .does("setText").due('~', "textCharacter", 0));
        Run.test("promise 14: the characters that no pattern has", run -> run
                .due(1, "typeText", 'A').due(2, "typeText", '*').due(3, "typeText", '-').due(4, "typeText", '"')
                .does("setText").shows(Remains.TEXT, "A*-\""));
        for (int code : WRONG_CODES) {
            Run.test("promise 14: the code " + code + " is refused", run -> run
                    .typesText("a")
                    .refuses(Run.ARGUMENT, "typeText", code)
                    .due(2, "typeText", 'b'));
        }
    }

    private static void typedForty() {
        Run.test("promise 14: the first character", run -> run.due(1, "typeText", 'a'));
        Run.test("promise 14: the 40th character is taken", run -> run
                .typesText("a".repeat(39))
                .due(40, "typeText", 'b'));
        Run.test("promise 14: the 41st character is refused", run -> run
                .typesText(FORTY)
                .refuses(Run.STATE, "typeText", 'x')
                .refuses(Run.STATE, "typeText", 32)
                .refuses(Run.STATE, "typeText", 126)
                .due(40, "setText").shows(Remains.TEXT, FORTY));
        Run.test("promise 14: a wrong code comes before a full buffer", run -> run
                .typesText(FORTY)
                .refuses(Run.ARGUMENT, "typeText", 31)
                .refuses(Run.ARGUMENT, "typeText", 127));
        Run.test("promise 14: the text has no part in the buffer's length", run -> run
                .text(FORTY)
                .due(1, "typeText", 'x'));
    }

    private static void setText() {
        Run.test("promise 15: an empty buffer makes the text empty", run -> run
                .text("abc")
                .due(0, "setText")
                .shows(Remains.TEXT, ""));
        Run.test("promise 15: a full buffer makes a text of 40", run -> run
                .typesText(FORTY)
                .due(40, "setText")
                .shows(Remains.TEXT, FORTY));
        Run.test("promise 15: a longer text is replaced whole", run -> run
                .text(FORTY).typesText("x")
                .due(1, "setText")
                .shows(Remains.TEXT, "x"));
        Run.test("promise 15: the buffer is empty afterwards", run -> run
                .text("abc")
                .due(1, "typeText", 'x')
                .due(1, "setText"));
        Run.test("promise 15: the text a second time is one more change", run -> run
                .due(0, "setText").due(1, "undoCount")
                .due(0, "setText").due(2, "undoCount"));
    }

    private static void insertedPlaces() {
        Run.test("promise 16: position 0", run -> run
                .text("abc").typesText("XY")
                .due(5, "insertText", 0).shows(Remains.TEXT, "XYabc"));
        Run.test("promise 16: a position inside", run -> run
                .text("abc").typesText("XY")
                .due(5, "insertText", 2).shows(Remains.TEXT, "abXYc"));
        Run.test("promise 16: the position at the end", run -> run
                .text("abc").typesText("XY")
                .due(5, "insertText", 3).shows(Remains.TEXT, "abcXY"));
        Run.test("promise 16: the position behind the end", run -> run
                .text("abc").typesText("XY")
                .refusesAndEmpties(BUFFER, OUTSIDE, "insertText", 4).typesText("XY")
                .refusesAndEmpties(BUFFER, OUTSIDE, "insertText", MOST));
        Run.test("promise 16: the position before the start", run -> run
                .text("abc").typesText("XY")
                .refusesAndEmpties(BUFFER, OUTSIDE, "insertText", -1).typesText("XY")
                .refusesAndEmpties(BUFFER, OUTSIDE, "insertText", LEAST));
        Run.test("promise 16: the only position of the empty text", run -> run
                .typesText("ab")
                .due(2, "insertText", 0).shows(Remains.TEXT, "ab"));
        Run.test("promise 16: there is no second position in the empty text", run -> run
                .typesText("ab")
                .refusesAndEmpties(BUFFER, OUTSIDE, "insertText", 1)
                .refuses(OUTSIDE, "insertText", 1));
        Run.test("promise 16: an empty buffer has no position either", run -> run
                .text("ab")
                .refuses(OUTSIDE, "insertText", 3)
                .refuses(OUTSIDE, "insertText", -1));
        Run.test("promise 16: an empty buffer changes no character and is a change", run -> run
                .text("ab")
                .due(2, "insertText", 1).shows(Remains.TEXT, "ab").due(2, "undoCount"));
    }

    private static void insertedForty() {
        Run.test("promise 16: up to 40 characters", run -> run
                .text("a".repeat(38)).typesText("xy")
                .due(40, "insertText", 1).shows(Remains.TEXT, "axy" + "a".repeat(37)));
        Run.test("promise 16: 41 characters are refused", run -> run
                .text("a".repeat(38)).typesText("xyz")
                .refusesAndEmpties(BUFFER, Run.STATE, "insertText", 1)
                .shows(Remains.TEXT, "a".repeat(38)));
        Run.test("promise 16: 40 characters into the empty text", run -> run
                .typesText(FORTY)
                .due(40, "insertText", 0).shows(Remains.TEXT, FORTY));
        Run.test("promise 16: 40 characters into a text of one", run -> run
                .text("x").typesText(FORTY)
                .refusesAndEmpties(BUFFER, Run.STATE, "insertText", 1));
        Run.test("promise 16: nothing into a text of 40", run -> run
                .text(FORTY)
                .due(40, "insertText", 40).due(40, "insertText", 0).shows(Remains.TEXT, FORTY));
        Run.test("promise 16: one character into a text of 40", run -> run
                .text(FORTY).typesText("x")
                .refusesAndEmpties(BUFFER, Run.STATE, "insertText", 40));
        Run.test("promise 16: no such position comes before too long a text", run -> run
                .text(FORTY).typesText("x")
                .refusesAndEmpties(BUFFER, OUTSIDE, "insertText", 41).typesText("x")
                .refusesAndEmpties(BUFFER, OUTSIDE, "insertText", -1));
    }

    private static void emptiedBuffer() {
        Run.test("promise 16: the buffer is empty after a text that is inserted", run -> run
                .text("ab").typesText("cd").does("insertText", 1)
                .due(4, "insertText", 0)
                .due(1, "typeText", 'x'));
        Run.test("promise 16: the buffer is empty after a wrong position", run -> run
                .text("ab").typesText("cd")
                .refusesAndEmpties(BUFFER, OUTSIDE, "insertText", 3)
                .due(2, "insertText", 0)
                .due(1, "typeText", 'x'));
        Run.test("promise 16: the buffer is empty after too long a text", run -> run
                .text("a".repeat(39)).typesText("cd")
                .refusesAndEmpties(BUFFER, Run.STATE, "insertText", 3)
                .due(39, "insertText", 0)
                .due(1, "typeText", 'x'));
    }

    private static void deleted() {
        deleted("the first character", "abcd", 0, 1, "bcd");
        deleted("the last character", "abcd", 3, 4, "abc");
        deleted("characters inside", "abcd", 1, 3, "ad");
        deleted("all characters", "abcd", 0, 4, "");
        deleted("all of 40 characters", FORTY, 0, 40, "");
        deleted("none at the start", "abcd", 0, 0, "abcd");
        deleted("none inside", "abcd", 2, 2, "abcd");
        deleted("none at the end", "abcd", 4, 4, "abcd");
        deleted("none of the empty text", "", 0, 0, "");
    }

    private static void deleted(String sentence, String text, int from, int to, String due) {
        Run.test("promise 17: " + sentence, run -> run
                .text(text)
                .due(due.length(), "deleteText", from, to)
                .shows(Remains.TEXT, due)
                .due(2, "undoCount"));
    }

    private static void deleteRefused() {
        deleteRefused("from is negative", "abcd", new int[][] {{-1, 2}, {-1, 0}, {-1, -1}, {LEAST, 0}, {LEAST, LEAST}});
        deleteRefused("from is greater than to", "abcd",
                new int[][] {{1, 0}, {4, 3}, {3, 1}, {2, -1}, {0, -1}, {0, LEAST}, {MOST, 0}, {5, 4}});
        deleteRefused("to is greater than the length", "abcd",
                new int[][] {{0, 5}, {4, 5}, {5, 5}, {0, MOST}, {MOST, MOST}, {2, 40}});
        deleteRefused("the text is empty", "", new int[][] {{0, 1}, {1, 1}, {-1, 0}, {1, 0}});
        deleteRefused("the text has 40 characters", FORTY, new int[][] {{0, 41}, {41, 41}, {40, 39}});
        deleteRefused("all of it at once", "abcd",
                new int[][] {{-1, -2}, {-1, 5}, {6, 5}, {LEAST, MOST}, {MOST, LEAST}});
    }

    private static void deleteRefused(String sentence, String text, int[][] places) {
        Run.test("promise 17: refused, for " + sentence, run -> {
            run.text(text).typesText("xy");
            for (int[] place : places) {
                run.refuses(OUTSIDE, "deleteText", place);
            }
        });
    }

    private static void replaced() {
        replaced("no match is still a change", "abc", "x", '-', 0, "abc");
        replaced("one match of the whole text", "abc", ".*c", '-', 1, "-");
        replaced("each match", "abcab", "ab", '-', 2, "-c-");
        replaced("matches that touch", "aaaa", "aa", '-', 2, "--");
        replaced("an empty match is an insertion", "ab", "", '-', 3, "-a-b-");
        replaced("an empty match behind another match", "aab", "a*", '-', 3, "--b-");
        replaced("the empty match in the empty text", "", "", '-', 1, "-");
        replaced("no match in the empty text", "", "a", '-', 0, "");
        replaced("the first code, 32", "aba", "a", 32, 2, " b ");
        replaced("the last code, 126", "aba", "a", 126, 2, "~b~");
        replaced("the character that is matched", "aba", "a", 'a', 2, "aba");
    }

    private static void replaced(String sentence, String text, String pattern, int code, int count, String due) {
        Run.test("promise 18: " + sentence, run -> run
                .patterns(pattern).text(text)
                .due(count, "replaceMatches", 0, code)
                .shows(Remains.TEXT, due)
                .due(3, "undoCount"));
    }

    private static void replacedForty() {
        Run.test("promise 18: up to 39 characters", run -> run
                .patterns("").text("a".repeat(19))
                .due(20, "replaceMatches", 0, '-')
                .shows(Remains.TEXT, "-a".repeat(19) + "-"));
        Run.test("promise 18: up to 40 characters", run -> run
                .patterns("b|").text("b" + "a".repeat(19))
                .due(21, "replaceMatches", 0, '-')
                .shows(Remains.TEXT, "-" + "-a".repeat(19) + "-"));
        Run.test("promise 18: 41 characters are refused", run -> run
                .patterns("").text("a".repeat(20))
                .refuses(Run.STATE, "replaceMatches", 0, '-'));
        Run.test("promise 18: one character too many for a text of 40", run -> run
                .patterns("x|").text(FORTY)
                .refuses(Run.STATE, "replaceMatches", 0, '-'));
        Run.test("promise 18: 40 matches in a text of 40", run -> run
                .patterns(".").text(FORTY)
                .due(40, "replaceMatches", 0, '-')
                .shows(Remains.TEXT, "-".repeat(40)));
        Run.test("promise 18: the whole text of 40 and the empty match behind it", run -> run
                .patterns("a*").text("a".repeat(40))
                .due(2, "replaceMatches", 0, '-')
                .shows(Remains.TEXT, "--"));
        Run.test("promise 18: no match in a text of 40", run -> run
                .patterns("x").text(FORTY)
                .due(0, "replaceMatches", 0, '-')
                .shows(Remains.TEXT, FORTY));
    }

    private static void replacedTwice() {
        Run.test("promise 18: a second replacement in the text of the first", run -> run
                .patterns("a", "b").text("abcab")
                .due(2, "replaceMatches", 0, 'b').shows(Remains.TEXT, "bbcbb")
                .due(4, "replaceMatches", 1, 'x').shows(Remains.TEXT, "xxcxx"));
        Run.test("promise 18: what was put in is not matched in the same call", run -> run
                .patterns("a|").text("ba")
                .due(3, "replaceMatches", 0, 'a').shows(Remains.TEXT, "abaa"));
    }

    private static void replacedOrder() {
        for (int code : WRONG_CODES) {
            Run.test("promise 18: the code " + code + " is refused", run -> run
                    .patterns("a", "x").text("ab")
                    .refuses(Run.ARGUMENT, "replaceMatches", 0, code)
                    .refuses(Run.ARGUMENT, "replaceMatches", 1, code));
        }
        Run.test("promise 18: no such pattern comes before a wrong code", run -> run
                .patterns("").text(FORTY)
                .refuses(OUTSIDE, "replaceMatches", 1, 31)
                .refuses(OUTSIDE, "replaceMatches", -1, 127));
        Run.test("promise 18: a wrong code comes before too long a text", run -> run
                .patterns("").text(FORTY)
                .refuses(Run.ARGUMENT, "replaceMatches", 0, 31)
                .refuses(Run.ARGUMENT, "replaceMatches", 0, 127));
        Run.test("promise 18: no such pattern comes before too long a text", run -> run
                .patterns("").text(FORTY)
                .refuses(OUTSIDE, "replaceMatches", 1, 'a'));
    }

    private static void lengths() {
        Run.test("promise 19: the empty text", run -> run.due(0, "textLength"));
        Run.test("promise 19: a text of 40", run -> run.text(FORTY).due(40, "textLength"));
        Run.test("promise 19: a text that became empty", run -> run
                .text("ab").does("deleteText", 0, 2)
                .due(0, "textLength"));
        Run.test("promise 19: what is in the buffer does not count", run -> run
                .text("a").typesText("bc")
                .due(1, "textLength"));
    }

    private static void characters() {
        Run.test("promise 20: the first character and what is before it", run -> run
                .text("abc")
                .due('a', "textCharacter", 0)
                .refuses(OUTSIDE, "textCharacter", -1)
                .refuses(OUTSIDE, "textCharacter", LEAST));
        Run.test("promise 20: the last character and what is behind it", run -> run
                .text("abc")
                .due('c', "textCharacter", 2)
                .refuses(OUTSIDE, "textCharacter", 3)
                .refuses(OUTSIDE, "textCharacter", MOST));
        Run.test("promise 20: the empty text has no character", run -> run
                .refuses(OUTSIDE, "textCharacter", 0)
                .refuses(OUTSIDE, "textCharacter", -1));
        Run.test("promise 20: the 40th character and the 41st", run -> run
                .text("a".repeat(39) + "z")
                .due('z', "textCharacter", 39)
                .refuses(OUTSIDE, "textCharacter", 40));
        Run.test("promise 20: a shorter text does not show a longer one", run -> run
                .text("abc").does("deleteText", 1, 3)
                .due('a', "textCharacter", 0)
                .refuses(OUTSIDE, "textCharacter", 1));
        Run.test("promise 20: what is in the buffer is not in the text", run -> run
                .typesText("abc")
                .refuses(OUTSIDE, "textCharacter", 0));
    }
}
