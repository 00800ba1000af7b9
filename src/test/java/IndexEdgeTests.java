/** For each call that takes a pattern, a position, a group or a match: the last one and the one behind it. */
public final class IndexEdgeTests {
    private static final int LEAST = Integer.MIN_VALUE;
    private static final int MOST = Integer.MAX_VALUE;
    private static final String OUTSIDE = Run.OUTSIDE;

    /** A call of the face, and its arguments behind the pattern. */
    private record Face(int promise, String name, int... rest) {
        int[] with(int pattern) {
            int[] arguments = new int[rest.length + 1];
            arguments[0] = pattern;
            System.arraycopy(rest, 0, arguments, 1, rest.length);
            return arguments;
        }

        String title(String sentence) {
            return "promise " + promise + ": " + name + ", " + sentence;
        }
    }

    /** With these arguments none throws anything for the pattern (a) and the text "ba". */
    private static final Face[] OF_PATTERN = {new Face(4, "removePattern"), new Face(6, "patternLength"),
        new Face(7, "patternCharacter", 0), new Face(8, "groupCount"), new Face(9, "minimumLength"),
        new Face(10, "maximumLength"), new Face(18, "replaceMatches", 'x'), new Face(21, "matchesAll"),
        new Face(22, "matchesAllByThreads"), new Face(23, "find", 0), new Face(24, "findEnd", 0),
        new Face(25, "findByThreads", 0), new Face(26, "findEndByThreads", 0), new Face(27, "isGroupSet", 0, 1),
        new Face(28, "groupStart", 0, 1), new Face(29, "groupEnd", 0, 1), new Face(30, "matchCount"),
        new Face(31, "matchStart", 0), new Face(32, "matchLength", 0), new Face(33, "longestMatch"),
        new Face(34, "matchedCharacters"), new Face(36, "meanMatchLength"), new Face(37, "coverage"),
        new Face(39, "writeMatch", 0), new Face(40, "writeMarked")};

    /** What their other arguments ask for does not exist either. */
    private static final Face[] WRONG_TWICE = {new Face(7, "patternCharacter", -1),
        new Face(18, "replaceMatches", 31), new Face(23, "find", 3), new Face(24, "findEnd", -1),
        new Face(25, "findByThreads", 3), new Face(26, "findEndByThreads", -1), new Face(27, "isGroupSet", 3, 0),
        new Face(28, "groupStart", 0, 2), new Face(29, "groupEnd", -1, 6), new Face(31, "matchStart", -1),
        new Face(32, "matchLength", 9), new Face(39, "writeMatch", 3)};

    private static final Face[] OF_POSITION = {new Face(23, "find"), new Face(24, "findEnd"),
        new Face(25, "findByThreads"), new Face(26, "findEndByThreads"), new Face(27, "isGroupSet"),
        new Face(28, "groupStart"), new Face(29, "groupEnd"), new Face(39, "writeMatch")};

    private static final Face[] OF_GROUP = {
        new Face(27, "isGroupSet"), new Face(28, "groupStart"), new Face(29, "groupEnd")};

    private static final Face[] OF_MATCH = {new Face(31, "matchStart"), new Face(32, "matchLength")};

    public static void main(String[] arguments) {
        for (Face face : OF_PATTERN) {
            patternTests(face);
        }
        for (Face face : WRONG_TWICE) {
            Run.test(face.title("no such pattern comes before all else"), run -> run
                    .patterns("(a)").text("ba")
                    .refuses(OUTSIDE, face.name, face.with(1))
                    .refuses(OUTSIDE, face.name, face.with(-1)));
        }
        for (Face face : OF_POSITION) {
            positionTests(face);
            noMatchTests(face);
        }
        for (Face face : OF_GROUP) {
            groupTests(face);
            groupOrderTests(face);
        }
        for (Face face : OF_MATCH) {
            matchTests(face);
        }
        Checks.end();
    }

    private static void patternTests(Face face) {
        Run.test(face.title("the last of 4 patterns"), run -> run
                .patterns("(a)", "(a)", "(a)", "(a)").text("ba")
                .does(face.name, face.with(3)));
        Run.test(face.title("the one behind the last of 4 patterns"), run -> run
                .patterns("(a)", "(a)", "(a)", "(a)").text("ba")
                .refuses(OUTSIDE, face.name, face.with(4))
                .refuses(OUTSIDE, face.name, face.with(MOST)));
        Run.test(face.title("the first pattern and the one before it"), run -> run
                .patterns("(a)").text("ba")
                .refuses(OUTSIDE, face.name, face.with(-1))
                .refuses(OUTSIDE, face.name, face.with(LEAST))
                .does(face.name, face.with(0)));
        Run.test(face.title("a pattern that was removed"), run -> run
                .patterns("(a)", "(a)", "(a)").text("ba")
                .does("removePattern", 0)
                .refuses(OUTSIDE, face.name, face.with(2))
                .does(face.name, face.with(1)));
        Run.test(face.title("no pattern at all"), run -> run
                .refuses(OUTSIDE, face.name, face.with(0))
                .refuses(OUTSIDE, face.name, face.with(-1)));
    }

    /** The pattern () matches at every position and has a group that is set there. */
    private static void positionTests(Face face) {
        Run.test(face.title("the first position and the one before it"), run -> run
                .patterns("()").text("abc")
                .does(face.name, 0, 0, 1)
                .refuses(OUTSIDE, face.name, 0, -1, 1)
                .refuses(OUTSIDE, face.name, 0, LEAST, 1));
        Run.test(face.title("the last position and the one behind it"), run -> run
                .patterns("()").text("abc")
                .does(face.name, 0, 3, 1)
                .refuses(OUTSIDE, face.name, 0, 4, 1)
                .refuses(OUTSIDE, face.name, 0, 40, 1)
                .refuses(OUTSIDE, face.name, 0, MOST, 1));
        Run.test(face.title("the only position of the empty text"), run -> run
                .patterns("()")
                .does(face.name, 0, 0, 1)
                .refuses(OUTSIDE, face.name, 0, 1, 1)
                .refuses(OUTSIDE, face.name, 0, -1, 1));
        Run.test(face.title("the last position of a text of 40"), run -> run
                .patterns("()").text("a".repeat(40))
                .does(face.name, 0, 40, 1)
                .refuses(OUTSIDE, face.name, 0, 41, 1));
        Run.test(face.title("no such position comes before no match"), run -> run
                .patterns("(x)").text("abc")
                .refuses(OUTSIDE, face.name, 0, 4, 1)
                .refuses(OUTSIDE, face.name, 0, -1, 1));
    }

    private static void noMatchTests(Face face) {
        Run.test(face.title("no match in the text"), run -> run
                .patterns("(x)", "(ab)").text("abc").does("writeMarked", 1)
                .refuses(Run.MISSING, face.name, 0, 0, 1)
                .refuses(Run.MISSING, face.name, 0, 3, 1));
        Run.test(face.title("no match in the empty text"), run -> run
                .patterns("(.)")
                .refuses(Run.MISSING, face.name, 0, 0, 1));
        Run.test(face.title("a match at the position, none from the next one on"), run -> run
                .patterns("(b)").text("abc")
                .does(face.name, 0, 1, 1)
                .refuses(Run.MISSING, face.name, 0, 2, 1));
        Run.test(face.title("a match of the last character, none at the end"), run -> run
                .patterns("(c)").text("abc")
                .does(face.name, 0, 2, 1)
                .refuses(Run.MISSING, face.name, 0, 3, 1));
    }

    private static void groupTests(Face face) {
        Run.test(face.title("group 1 and what is before it"), run -> run
                .patterns("(a)(b)").text("ab")
                .does(face.name, 0, 0, 1)
                .refuses(OUTSIDE, face.name, 0, 0, 0)
                .refuses(OUTSIDE, face.name, 0, 0, -1)
                .refuses(OUTSIDE, face.name, 0, 0, LEAST));
        Run.test(face.title("the last group and the one behind it"), run -> run
                .patterns("(a)(b)").text("ab")
                .does(face.name, 0, 0, 2)
                .refuses(OUTSIDE, face.name, 0, 0, 3)
                .refuses(OUTSIDE, face.name, 0, 0, 5)
                .refuses(OUTSIDE, face.name, 0, 0, MOST));
        Run.test(face.title("the last of 5 groups and the one behind it"), run -> run
                .patterns("(a)(b)(c)(d)(e)").text("abcde")
                .does(face.name, 0, 0, 5)
                .refuses(OUTSIDE, face.name, 0, 0, 6));
        Run.test(face.title("a pattern without groups"), run -> run
                .patterns("a", "(a)").text("a")
                .refuses(OUTSIDE, face.name, 0, 0, 1)
                .refuses(OUTSIDE, face.name, 0, 0, 0));
    }

    private static void groupOrderTests(Face face) {
        Run.test(face.title("no such group comes before no match"), run -> run
                .patterns("(x)").text("ab")
                .refuses(OUTSIDE, face.name, 0, 0, 2)
                .refuses(OUTSIDE, face.name, 0, 2, 0)
                .refuses(Run.MISSING, face.name, 0, 0, 1));
        Run.test(face.title("no such position though there is such a group"), run -> run
                .patterns("(a)").text("ab")
                .refuses(OUTSIDE, face.name, 0, 3, 1)
                .refuses(OUTSIDE, face.name, 0, -1, 2));
    }

    private static void matchTests(Face face) {
        Run.test(face.title("match 0 and what is before it"), run -> run
                .patterns("a").text("aba")
                .does(face.name, 0, 0)
                .refuses(Run.MISSING, face.name, 0, -1)
                .refuses(Run.MISSING, face.name, 0, LEAST));
        Run.test(face.title("the last match and the one behind it"), run -> run
                .patterns("a").text("aba")
                .does(face.name, 0, 1)
                .refuses(Run.MISSING, face.name, 0, 2)
                .refuses(Run.MISSING, face.name, 0, MOST));
        Run.test(face.title("the last of 41 matches and the one behind it"), run -> run
                .patterns("").text("a".repeat(40))
                .does(face.name, 0, 40)
                .refuses(Run.MISSING, face.name, 0, 41));
        Run.test(face.title("the only match in the empty text"), run -> run
                .patterns("")
                .due(0, face.name, 0, 0)
                .refuses(Run.MISSING, face.name, 0, 1));
        Run.test(face.title("no matches at all"), run -> run
                .patterns("x").text("ab")
                .refuses(Run.MISSING, face.name, 0, 0));
    }
}
