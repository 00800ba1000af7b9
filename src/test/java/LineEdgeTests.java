/** The boundaries of promises 39 to 41: the output line. */
public final class LineEdgeTests {
    private static final String FORTY = "a".repeat(40);

    public static void main(String[] arguments) {
        matches();
        groups();
        matchLines();
        marked();
        markedLines();
        characters();
        staying();
        Checks.end();
    }

    private static void match(String sentence, String pattern, String text, int from, String due) {
        Run.test("promise 39: " + sentence, run -> run
                .patterns(pattern).text(text)
                .writes(due, "writeMatch", 0, from));
    }

    private static void matches() {
        match("an empty match in the empty text", "", "", 0, "0-0");
        match("an empty match at the end", "", "abc", 3, "3-3");
        match("the match from the position on", "a", "aba", 1, "2-3");
        match("the last number with one digit", "a", FORTY, 8, "8-9");
        match("the first number with two digits", "a", FORTY, 9, "9-10");
        match("two numbers with two digits", "a", FORTY, 10, "10-11");
        match("a number that ends with 0", "a", FORTY, 19, "19-20");
        match("the greatest number", "a*", FORTY, 0, "0-40");
        match("the greatest number twice", "a*", FORTY, 40, "40-40");
    }

    private static void groups() {
        match("a group that is set", "(ab)", "ab", 0, "0-2;1:0-2");
        match("a group that is not set", "(a)?b", "b", 0, "0-1;1:");
        match("the example of the document", "(ab)c(d)?", "xxabc", 0, "2-5;1:2-4;2:");
        match("a group that is not set before one that is", "(a)|(b)", "b", 0, "0-1;1:;2:0-1");
        match("a group that is empty", "()a", "a", 0, "0-1;1:0-0");
        match("5 groups, none of them set", "(a)?(a)?(a)?(a)?(a)?", "", 0, "0-0;1:;2:;3:;4:;5:");
        match("5 groups, the longest line", "()()()()()", FORTY, 40, "40-40;1:40-40;2:40-40;3:40-40;4:40-40;5:40-40");
        match("5 groups, each number of two digits", "(((((a)))))", FORTY, 39,
                "39-40;1:39-40;2:39-40;3:39-40;4:39-40;5:39-40");
    }

    private static void matchLines() {
        Run.test("promise 39: a shorter line replaces a longer one whole", run -> run
                .patterns("(a)", "b").text("ab")
                .writes("0-1;1:0-1", "writeMatch", 0, 0)
                .writes("1-2", "writeMatch", 1, 0));
        Run.test("promise 39: a longer line replaces a shorter one whole", run -> run
                .patterns("(a)", "b").text("ab")
                .writes("1-2", "writeMatch", 1, 0)
                .writes("0-1;1:0-1", "writeMatch", 0, 0));
        Run.test("promise 39: what is refused leaves the line", run -> run
                .patterns("a", "x").text("ab").does("writeMatch", 0, 0)
                .refuses(Run.OUTSIDE, "writeMatch", 2, 0)
                .refuses(Run.OUTSIDE, "writeMatch", 0, 3)
                .refuses(Run.MISSING, "writeMatch", 1, 0)
                .shows(Remains.LINE, "0-1"));
        Run.test("promise 39: no such position comes before no match", run -> run
                .patterns("x").text("ab")
                .refuses(Run.OUTSIDE, "writeMatch", 0, 3)
                .refuses(Run.MISSING, "writeMatch", 0, 2));
    }

    private static void marked(String sentence, String pattern, String text, String due) {
        Run.test("promise 40: " + sentence, run -> run
                .patterns(pattern).text(text)
                .writes(due, "writeMarked", 0));
    }

    private static void marked() {
        marked("no match in the empty text", "a", "", "");
        marked("an empty match in the empty text", "", "", "<>");
        marked("no match", "x", "abc", "abc");
        marked("the example of the document", "ab?", "xabya", "x<ab>y<a>");
        marked("the whole text", "abc", "abc", "<abc>");
        marked("a match at the start", "a", "ab", "<a>b");
        marked("a match at the end", "b", "ab", "a<b>");
        marked("matches that touch", "a", "aa", "<a><a>");
        marked("empty matches", "", "ab", "<>a<>b<>");
        marked("an empty match behind another one", "a*", "aab", "<aa><>b<>");
        marked("marks that are in the text", "[^a]", "<a>", "<<>a<>>");
    }

    private static void markedLines() {
        marked("the longest line, of empty matches", "", FORTY, "<>a".repeat(40) + "<>");
        marked("the longest line, of matches of each character", "a|", FORTY, "<a>".repeat(40) + "<>");
        marked("40 characters without a mark", "x", FORTY, FORTY);
        Run.test("promise 40: a shorter line replaces the longest one whole", run -> run
                .patterns("").text(FORTY).does("writeMarked", 0).does("setText")
                .writes("<>", "writeMarked", 0));
        Run.test("promise 40: the empty line replaces another one", run -> run
                .patterns("a").text("a").does("writeMarked", 0).does("setText")
                .writes("", "writeMarked", 0)
                .refuses(Run.OUTSIDE, "lineCharacter", 0));
        Run.test("promise 40: what is refused leaves the line", run -> run
                .patterns("a").text("ab").does("writeMarked", 0)
                .refuses(Run.OUTSIDE, "writeMarked", 1)
                .refuses(Run.OUTSIDE, "writeMarked", -1)
                .shows(Remains.LINE, "<a>b"));
        Run.test("promise 40: the text stays as it is", run -> run
                .patterns("a").text("ab")
                .writes("<a>b", "writeMarked", 0)
                .shows(Remains.TEXT, "ab"));
    }

    private static void characters() {
        Run.test("promise 41: the line is empty at first", run -> run
                .refuses(Run.OUTSIDE, "lineCharacter", 0)
                .refuses(Run.OUTSIDE, "lineCharacter", -1));
        Run.test("promise 41: the first character and what is before it", run -> run
                .patterns("b").text("ab").does("writeMatch", 0, 0)
                .due('1', "lineCharacter", 0)
                .refuses(Run.OUTSIDE, "lineCharacter", -1)
                .refuses(Run.OUTSIDE, "lineCharacter", Integer.MIN_VALUE));
        Run.test("promise 41: the last character and what is behind it", run -> run
                .patterns("b").text("ab").does("writeMatch", 0, 0)
                .due('2', "lineCharacter", 2)
                .refuses(Run.OUTSIDE, "lineCharacter", 3)
                .refuses(Run.OUTSIDE, "lineCharacter", Integer.MAX_VALUE));
        Run.test("promise 41: the last character of the longest line and what is behind it", run -> run
                .patterns("").text(FORTY).does("writeMarked", 0)
                .due('<', "lineCharacter", 120)
                .due('>', "lineCharacter", 121)
                .refuses(Run.OUTSIDE, "lineCharacter", 122));
        Run.test("promise 41: a shorter line does not show a longer one", run -> run
                .patterns("", "a").text("ab").does("writeMarked", 0).does("writeMatch", 1, 0)
                .due('1', "lineCharacter", 2)
                .refuses(Run.OUTSIDE, "lineCharacter", 3));
    }

    private static void staying() {
        Run.test("promise 41: the line stays when the text changes", run -> run
                .patterns("a").text("ab").does("writeMarked", 0)
                .text("xyz").does("removePattern", 0)
                .shows(Remains.LINE, "<a>b"));
        Run.test("promise 41: the line stays after undo", run -> run
                .patterns("a").text("ab").does("writeMarked", 0)
                .due(1, "undo")
                .shows(Remains.LINE, "<a>b"));
        Run.test("promise 41: the line stays after a snapshot is restored", run -> run
                .does("saveSnapshot").patterns("a").text("ab").does("writeMarked", 0)
                .due(0, "restoreSnapshot")
                .shows(Remains.LINE, "<a>b"));
    }
}
