/** The boundaries of promises 1 to 5: the new object, the pattern buffer, compile and removePattern. */
public final class CompileEdgeTests {
    private static final String LONG = "ab".repeat(15);

    public static void main(String[] arguments) {
        newObject();
        patternBuffer();
        fourPatterns();
        emptiedBuffer();
        keptFault();
        characters();
        atoms();
        repeats();
        groups();
        removal();
        count();
        Checks.end();
    }

    private static void newObject() {
        Run.test("promise 1: a new object has no patterns", run -> run
                .due(0, "patternCount")
                .refuses(Run.OUTSIDE, "patternLength", 0)
                .shows(Remains.PATTERNS, ""));
        Run.test("promise 1: the text of a new object is empty", run -> run
                .due(0, "textLength")
                .refuses(Run.OUTSIDE, "textCharacter", 0));
        Run.test("promise 1: both buffers of a new object are empty", run -> run
                .due(0, "setText")
                .due(0, "compile")
                .shows(Remains.TEXT, "").shows(Remains.PATTERNS, "/"));
        Run.test("promise 1: a new object has no fault and an empty line", run -> run
                .shows(Remains.FAULT, Remains.NO_FAULT)
                .shows(Remains.LINE, ""));
        Run.test("promise 1: a new object has nothing to undo and no snapshot", run -> run
                .due(0, "undoCount")
                .refuses(Run.STATE, "undo")
                .refuses(Run.STATE, "restoreSnapshot"));
        Checks.test("promise 1: objects share nothing", CompileEdgeTests::shareNothing);
    }

    private static void shareNothing() {
        Subject used = new Subject();
        Subject fresh = new Subject();
        used.type("typePattern", "(a");
        used.call("compile");
        used.type("typePattern", "a");
        used.call("compile");
        used.type("typeText", "ab");
        used.call("setText");
        used.call("saveSnapshot");
        used.call("writeMarked", 0);
        used.type("typePattern", "b");
        used.type("typeText", "c");
        String due = Remains.of(new Subject()).toString();
        Checks.same("what remains of the other one", Remains.of(fresh).toString(), due);
    }

    private static void patternBuffer() {
        Run.test("promise 2: the first character", run -> run.due(1, "typePattern", 'a'));
        Run.test("promise 2: the 30th character is taken", run -> run
                .typesPattern("a".repeat(29))
                .due(30, "typePattern", 'a'));
        Run.test("promise 2: the 31st character is refused", run -> run
                .typesPattern(LONG)
                .refuses(Run.STATE, "typePattern", 'a')
                .refuses(Run.STATE, "typePattern", '*')
                .refuses(Run.STATE, "typePattern", 0)
                .due(0, "compile")
                .shows(Remains.PATTERNS, "/" + LONG));
        Run.test("promise 2: an emptied buffer takes 30 characters again", run -> run
                .typesPattern(LONG).does("compile")
                .due(1, "typePattern", 'b')
                .typesPattern("b".repeat(28))
                .due(30, "typePattern", 'b')
                .refuses(Run.STATE, "typePattern", 'b'));
        int[] codes = {0, 31, 32, 126, 127, 255, 256, 256 + 'a', 0x7fff, 0x8000, 0xffff};
        Run.test("promise 2: any character is taken", run -> {
            for (int index = 0; index < codes.length; index++) {
                run.due(index + 1, "typePattern", codes[index]);
            }
        });
        Run.test("promise 2: a buffer is typed into while there are 4 patterns", run -> run
                .patterns("a", "b", "c", "d")
                .due(1, "typePattern", 'e'));
    }

    private static void fourPatterns() {
        Run.test("promise 3: patterns are numbered from 0 in their order", run -> run
                .typesPattern("b").due(0, "compile")
                .typesPattern("a").due(1, "compile")
                .shows(Remains.PATTERNS, "/b/a"));
        Run.test("promise 3: the 4th pattern is taken", run -> run
                .patterns("a", "b", "c").typesPattern("d")
                .due(3, "compile")
                .shows(Remains.PATTERNS, "/a/b/c/d"));
        Run.test("promise 3: the 5th pattern is refused", run -> run
                .patterns("a", "b", "c", "d").typesPattern("e")
                .refusesAndEmpties(Remains.PATTERN_BUFFER, Run.STATE, "compile")
                .shows(Remains.PATTERNS, "/a/b/c/d"));
        Run.test("promise 3: an empty 5th pattern is refused", run -> run
                .patterns("", "", "", "")
                .refuses(Run.STATE, "compile"));
        Run.test("promise 3: the same pattern counts anew", run -> run
                .patterns("a", "a", "a").typesPattern("a")
                .due(3, "compile")
                .refuses(Run.STATE, "compile"));
        Run.test("promise 3: after a removal there is room again", run -> run
                .patterns("a", "b", "c", "d").does("removePattern", 1).typesPattern("e")
                .due(3, "compile")
                .shows(Remains.PATTERNS, "/a/c/d/e"));
        Run.test("promise 3: 4 patterns come before a pattern that is not valid", run -> run
                .patterns("a", "b", "c", "d").typesPattern("(*")
                .refusesAndEmpties(Remains.PATTERN_BUFFER, Run.STATE, "compile"));
    }

    private static void emptiedBuffer() {
        Run.test("promise 3: the buffer is empty after a pattern that is taken", run -> run
                .typesPattern("a").due(0, "compile")
                .due(1, "compile")
                .shows(Remains.PATTERNS, "/a/"));
        Run.test("promise 3: the buffer is empty after a pattern that is not valid", run -> run
                .faults("0,1,0", "*")
                .due(0, "compile")
                .shows(Remains.PATTERNS, "/"));
        Run.test("promise 3: the buffer is empty after a 5th pattern", run -> run
                .patterns("a", "b", "c", "d").typesPattern(LONG)
                .refusesAndEmpties(Remains.PATTERN_BUFFER, Run.STATE, "compile")
                .due(1, "typePattern", 'e'));
        Run.test("promise 3: a full buffer that is not valid is emptied", run -> run
                .faults("30,5,1", "(" + "a".repeat(29))
                .due(1, "typePattern", 'e'));
        Run.test("promise 3: the empty buffer is a valid pattern", run -> run
                .due(0, "compile")
                .due(0, "patternLength", 0));
        Run.test("promise 3: a buffer of 30 characters is a valid pattern", run -> run
                .typesPattern("[abc]*|(0|9)+".repeat(2) + "....")
                .due(0, "compile")
                .due(30, "patternLength", 0));
    }

    private static void keptFault() {
        Run.test("promise 3: a pattern that is not valid is no pattern and no change", run -> run
                .patterns("a").text("ab").does("saveSnapshot").does("writeMarked", 0).typesText("c")
                .faults("1,2,0", "a)")
                .due(1, "patternCount")
                .due(2, "undoCount"));
        Run.test("promise 3: compile with 4 patterns keeps no fault", run -> run
                .patterns("a", "b", "c", "d").typesPattern("a)")
                .refusesAndEmpties(Remains.PATTERN_BUFFER, Run.STATE, "compile")
                .shows(Remains.FAULT, Remains.NO_FAULT));
        Run.test("promise 3: compile with 4 patterns leaves an earlier fault", run -> run
                .faults("2,5,1", "(a")
                .patterns("a", "b", "c", "d").typesPattern(")")
                .refusesAndEmpties(Remains.PATTERN_BUFFER, Run.STATE, "compile")
                .shows(Remains.FAULT, "2,5,1"));
        Run.test("promise 3: a pattern that is not valid is refused beside 3 patterns", run -> run
                .patterns("a", "b", "c")
                .faults("0,2,0", ")")
                .due(3, "patternCount"));
    }

    private static void characters() {
        String taken = "az09 my5";
        for (char character : taken.toCharArray()) {
            Run.test("promise 3: the character '" + character + "'", run -> run
                    .typesPattern("" + character).due(0, "compile")
                    .typesPattern("[" + character + "]").due(1, "compile")
                    .typesPattern("[^" + character + "]").due(2, "compile"));
        }
        char[] refused = {'`', '{', '/', ':', 31, '!', '@', 'A', 'Z', '-', '_', '\\', '$', 0, 127, 128, 160, 255,
            256 + 'a', 256 + ' ', 0x8000 + '0', 0xffff};
        for (char character : refused) {
            Run.test("promise 3: the character with code " + (int) character + " is none of a pattern", run -> run
                    .faults("0,4,0", "" + character)
                    .faults("1,4,0", "a" + character)
                    .faults("2,4,1", "(a" + character + ")")
                    .faults("1,4,0", "[" + character + "]")
                    .faults("2,4,0", "[a" + character + "]")
                    .faults("2,4,0", "[^" + character + "]"));
        }
    }

    private static void atoms() {
        taken("an empty branch", "|", "a|", "|a", "a||b");
        taken("an empty group", "()", "(|)", "(())", "()()");
        taken("one character in square brackets", "[a]", "[^a]");
        taken("several characters in square brackets", "[ab0 ]", "[^ab0 ]", "[aa]");
        taken("each atom in a row", "a.(b)[c]", "[^c](b).a", "..", "[a][b]");
        taken("as many branches as there is room for", "|".repeat(30));
        faulty("no character in square brackets", "[]", "1,4,0");
        faulty("no character behind ^ in square brackets", "[^]", "2,4,0");
        faulty("a second ^ in square brackets", "[^^a]", "2,4,0");
        faulty("^ behind a character in square brackets", "[a^]", "2,4,0");
        faulty("^ outside square brackets", "^a", "0,4,0");
        faulty("] without [", "a]", "1,4,0");
        faulty("[ in square brackets", "[a[", "2,4,0");
        faulty(". in square brackets", "[.]", "1,4,0");
        faulty("| in square brackets", "[a|b]", "2,4,0");
    }

    private static void taken(String sentence, String... patterns) {
        Run.test("promise 3: " + sentence + " is valid", run -> {
            for (int index = 0; index < patterns.length; index++) {
                run.typesPattern(patterns[index]).due(index, "compile");
            }
        });
    }

    private static void faulty(String sentence, String pattern, String fault) {
        Run.test("promise 3: " + sentence + " is not valid", run -> run.faults(fault, pattern));
    }

    private static void repeats() {
        for (String sign : new String[] {"*", "+", "?"}) {
            taken("\"" + sign + "\" behind each atom", "a" + sign, "." + sign, "(a)" + sign, "[a]" + sign);
            faulty("\"" + sign + "\" at the start", sign, "0,1,0");
            faulty("\"" + sign + "\" at the start of a branch", "a|" + sign, "2,1,0");
            faulty("\"" + sign + "\" at the start of a group", "(" + sign, "1,1,1");
            faulty("\"" + sign + "\" in square brackets", "[a" + sign, "2,1,0");
            for (String first : new String[] {"*", "+", "?"}) {
                faulty("\"" + first + sign + "\"", "a" + first + sign, "2,1,0");
            }
        }
        String[] empty = {"()", "(|)", "(a?)", "(a*)", "(a|)", "(|a)", "((a?))", "(a?b*)", "(()())", "(a|b*|c)"};
        for (String atom : empty) {
            faulty(atom + " before \"*\"", atom + "*", atom.length() + ",1,0");
            faulty(atom + " before \"+\"", atom + "+", atom.length() + ",1,0");
            taken(atom + " before \"?\"", atom + "?");
        }
        taken("an atom that cannot be empty before \"*\"", "(a)*", "(a?b)*", "(a|b)*", "(ab?)*");
        taken("an atom that cannot be empty before \"+\"", "(a+)+", "(a*b)+", "((a))+", "(()a)+");
    }

    private static void groups() {
        taken("5 groups", "()()()()()", "(((((a)))))", "(a(b)|(c)(d(e)))");
        faulty("a 6th group", "()()()()()()", "10,3,0");
        faulty("a 6th group inside the others", "((((((", "5,3,5");
        faulty("a 6th group in another branch", "(a)(b)(c)|(d)(e)|(f)", "17,3,0");
        taken("a round bracket that is closed", "(a)", "(a)b");
        faulty("a round bracket that is not closed", "(a", "2,5,1");
        faulty("a round bracket that was not opened", "a)", "1,2,0");
        faulty("a round bracket that is closed twice", "(a))", "3,2,0");
    }

    private static void removal() {
        Run.test("promise 4: the only pattern", run -> run
                .patterns("a")
                .due(0, "removePattern", 0)
                .shows(Remains.PATTERNS, "")
                .refuses(Run.OUTSIDE, "removePattern", 0));
        Run.test("promise 4: the first of 4 patterns", run -> run
                .patterns("a", "b", "c", "d")
                .due(3, "removePattern", 0)
                .shows(Remains.PATTERNS, "/b/c/d"));
        Run.test("promise 4: the last of 4 patterns", run -> run
                .patterns("a", "b", "c", "d")
                .due(3, "removePattern", 3)
                .shows(Remains.PATTERNS, "/a/b/c"));
        Run.test("promise 4: the later indices decrease, the earlier ones stay", run -> run
                .patterns("a", "b", "c", "d").text("cdd")
                .due(3, "removePattern", 1)
                .shows(Remains.PATTERNS, "/a/c/d")
                .due(0, "matchCount", 0).due(1, "matchCount", 1).due(2, "matchCount", 2));
        Run.test("promise 4: removePattern is one change", run -> run
                .patterns("a", "b")
                .due(1, "removePattern", 0)
                .due(3, "undoCount"));
    }

    private static void count() {
        Run.test("promise 5: from none to 4 patterns", run -> run
                .due(0, "patternCount")
                .patterns("").due(1, "patternCount")
                .patterns("").due(2, "patternCount")
                .patterns("").due(3, "patternCount")
                .patterns("").due(4, "patternCount"));
        Run.test("promise 5: what is refused is not counted", run -> run
                .patterns("a", "b", "c")
                .faults("0,2,0", ")")
                .due(3, "patternCount")
                .patterns("d").refuses(Run.STATE, "compile")
                .due(4, "patternCount")
                .refuses(Run.OUTSIDE, "removePattern", 4)
                .due(4, "patternCount"));
        Run.test("promise 5: what is typed is not counted", run -> run
                .typesPattern("a")
                .due(0, "patternCount"));
    }
}
