import java.util.NoSuchElementException;

/** Promises 1 to 13. */
public final class PatternTests {
    private static final Class<IndexOutOfBoundsException> OUTSIDE = IndexOutOfBoundsException.class;
    private static final Class<NoSuchElementException> MISSING = NoSuchElementException.class;
    private static final Class<IllegalStateException> STATE = IllegalStateException.class;
    private static final Class<IllegalArgumentException> ARGUMENT = IllegalArgumentException.class;

    public static void main(String[] arguments) {
        Checks.test("promise 1: a new object is empty", PatternTests::newObject);
        Checks.test("promise 2: typePattern counts", PatternTests::typePattern);
        Checks.test("promise 2: typePattern takes any character", PatternTests::typeAnyCharacter);
        Checks.test("promise 2: typePattern stops at 30", PatternTests::typePatternFull);
        Checks.test("promise 3: compile numbers the patterns", PatternTests::compile);
        Checks.test("promise 3: compile empties the buffer", PatternTests::compileEmptiesBuffer);
        Checks.test("promise 3: compile with 4 patterns", PatternTests::compileFull);
        Checks.test("promise 3: compile refuses what is not valid", PatternTests::compileInvalid);
        Checks.test("promise 3: compile takes what is valid", PatternTests::compileValid);
        Checks.test("promise 4: removePattern", PatternTests::removePattern);
        Checks.test("promise 4: removePattern of none", PatternTests::removeNone);
        Checks.test("promise 5: patternCount", PatternTests::patternCount);
        Checks.test("promise 6: patternLength", PatternTests::patternLength);
        Checks.test("promise 7: patternCharacter", PatternTests::patternCharacter);
        Checks.test("promise 8: groupCount", PatternTests::groupCount);
        Checks.test("promise 9: minimumLength", PatternTests::minimumLength);
        Checks.test("promise 10: maximumLength", PatternTests::maximumLength);
        Checks.test("promise 10: no maximumLength", PatternTests::noMaximumLength);
        Checks.test("promises 11 to 13: no fault", PatternTests::noFault);
        Checks.test("promises 11 to 13: faults of repeats", PatternTests::faultsOfRepeats);
        Checks.test("promises 11 to 13: faults of groups", PatternTests::faultsOfGroups);
        Checks.test("promises 11 to 13: faults in brackets", PatternTests::faultsInBrackets);
        Checks.test("promises 11 to 13: other faults", PatternTests::otherFaults);
        Checks.test("promises 11 to 13: the latest fault stays", PatternTests::faultStays);
        Checks.end();
    }

    private static void newObject() {
        RegexTracer engine = new RegexTracer();
        Checks.same("patternCount", engine.patternCount(), 0);
        Checks.same("textLength", engine.textLength(), 0);
        Checks.same("undoCount", engine.undoCount(), 0);
        Checks.same("line", Engines.lineOf(engine), "");
        Checks.same("fault", Engines.faultOf(engine), "none");
        Checks.same("first of pattern buffer", engine.typePattern('a'), 1);
        Checks.same("first of text buffer", engine.typeText('a'), 1);
        Checks.fails("restoreSnapshot", STATE, engine::restoreSnapshot);
    }

    private static void typePattern() {
        RegexTracer engine = new RegexTracer();
        for (int count = 1; count <= 30; count++) {
            Checks.same("typePattern", engine.typePattern('a'), count);
        }
        Checks.same("undoCount", engine.undoCount(), 0);
        engine.compile();
        Checks.same("pattern", Engines.patternOf(engine, 0), Engines.repeated("a", 30));
    }

    private static void typeAnyCharacter() {
        char[] characters = {0, 7, 31, 127, 128, 255, 256, 0x7fff, 0x8000, 0xffff};
        RegexTracer engine = new RegexTracer();
        for (char character : characters) {
            Checks.same("typePattern", engine.typePattern(character), 1);
            Checks.fails("compile", ARGUMENT, engine::compile);
            Checks.same("fault", Engines.faultOf(engine), "0,4,0");
        }
        engine.typePattern((char) ('a' + 256));
        Checks.fails("compile", ARGUMENT, engine::compile);
    }

    private static void typePatternFull() {
        RegexTracer engine = new RegexTracer();
        Engines.typePattern(engine, Engines.repeated("ab", 15));
        Engines.refuses(engine, "typePattern", STATE, () -> engine.typePattern('c'));
        Engines.refuses(engine, "typePattern", STATE, () -> engine.typePattern('*'));
        engine.compile();
        Checks.same("pattern", Engines.patternOf(engine, 0), Engines.repeated("ab", 15));
        Checks.same("typePattern", engine.typePattern('c'), 1);
    }

    private static void compile() {
        RegexTracer engine = new RegexTracer();
        Checks.same("compile", engine.compile(), 0);
        Checks.same("compile", Engines.pattern(engine, "a"), 1);
        Checks.same("compile", Engines.pattern(engine, "b|c"), 2);
        Checks.same("compile", Engines.pattern(engine, "a"), 3);
        Checks.same("patterns", Engines.patternsOf(engine), "//a/b|c/a");
        Checks.same("undoCount", engine.undoCount(), 4);
    }

    private static void compileEmptiesBuffer() {
        RegexTracer engine = new RegexTracer();
        Engines.pattern(engine, "abc");
        Checks.same("after a valid one", engine.typePattern(')'), 1);
        Checks.fails("compile", ARGUMENT, engine::compile);
        Checks.same("after one that is not valid", engine.typePattern('a'), 1);
        engine.compile();
        engine.compile();
        engine.compile();
        engine.typePattern('a');
        Checks.fails("compile", STATE, engine::compile);
        Checks.same("after one too many", engine.typePattern('a'), 1);
    }

    private static void compileFull() {
        RegexTracer engine = Engines.with("ab", "a", "b", "c", "d");
        Engines.refuses(engine, "compile of nothing", STATE, engine::compile);
        Engines.typePattern(engine, "(*");
        Engines.refuses(engine, "compile keeps no fault", STATE, engine::compile);
        Checks.same("fault", Engines.faultOf(engine), "none");
        engine.removePattern(0);
        Checks.same("compile", Engines.pattern(engine, "e"), 3);
        Checks.same("patterns", Engines.patternsOf(engine), "/b/c/d/e");
    }

    private static void compileInvalid() {
        String[] wrong = {"*", "+", "?", "a**", "a+*", "a??", "|*", "(*)", ")", "(", "(a", "a)", "[", "[]", "[^]",
            "[^", "[a", "[a^]", "[^^]", "[.]", "[a|b]", "[(a)]", "]", "^", "a^", "A", "-", "[-]", "_", "(a?)*",
            "(a?)+", "()*", "()+", "(|)+", "(a|b*)*", "((a*))+", "()()()()()()", "((((((a))))))", "a{2}", "\\."};
        for (String pattern : wrong) {
            RegexTracer engine = Engines.with("ab", "a");
            Engines.typePattern(engine, pattern);
            Checks.fails("compile of " + pattern, ARGUMENT, engine::compile);
            Checks.same("patterns", Engines.patternsOf(engine), "/a");
            Checks.same("text", Engines.textOf(engine), "ab");
            Checks.same("undoCount", engine.undoCount(), 2);
            Checks.same("line", Engines.lineOf(engine), "");
        }
    }

    private static void compileValid() {
        String[] right = {"", "|", "||", "()", "(|)", "()?", "(())", "(a?)?", "(a*)?", "((a)?)?", "a", " ", "0", "9",
            "z", ".", ".*", "[a]", "[^a]", "[ ]", "[^ 09az]*", "(a)*", "(a|b)+", "(a+)+", "((a|b)+c?)*", "a|", "|a",
            "()()()()()", "(((((a)))))", "[aa]", "a*b+c?", "(((((a)+)+)+)+)+", Engines.repeated("|", 30)};
        for (String pattern : right) {
            RegexTracer engine = new RegexTracer();
            Checks.same("compile of " + pattern, Engines.pattern(engine, pattern), 0);
            Checks.same("pattern", Engines.patternOf(engine, 0), pattern);
            Checks.same("fault", Engines.faultOf(engine), "none");
        }
    }

    private static void removePattern() {
        RegexTracer engine = Engines.with("b", "a", "b", "c", "d");
        Checks.same("removePattern", engine.removePattern(1), 3);
        Checks.same("patterns", Engines.patternsOf(engine), "/a/c/d");
        Checks.same("undoCount", engine.undoCount(), 6);
        Checks.same("removePattern", engine.removePattern(2), 2);
        Checks.same("patterns", Engines.patternsOf(engine), "/a/c");
        Checks.same("removePattern", engine.removePattern(0), 1);
        Checks.same("patterns", Engines.patternsOf(engine), "/c");
        Checks.same("matchCount", engine.matchCount(0), 0);
        Checks.same("removePattern", engine.removePattern(0), 0);
        Checks.same("patterns", Engines.patternsOf(engine), "");
    }

    private static void removeNone() {
        RegexTracer empty = new RegexTracer();
        Engines.refuses(empty, "removePattern", OUTSIDE, () -> empty.removePattern(0));
        RegexTracer engine = Engines.with("b", "a", "b");
        int[] wrong = {-1, 2, 3, 4, Integer.MIN_VALUE, Integer.MAX_VALUE};
        for (int pattern : wrong) {
            Engines.refuses(engine, "removePattern", OUTSIDE, () -> engine.removePattern(pattern));
        }
    }

    private static void patternCount() {
        RegexTracer engine = new RegexTracer();
        for (int count = 1; count <= 4; count++) {
            engine.compile();
            Checks.same("patternCount", engine.patternCount(), count);
        }
        Checks.fails("compile", STATE, engine::compile);
        Checks.same("patternCount", engine.patternCount(), 4);
        engine.removePattern(3);
        Checks.same("patternCount", engine.patternCount(), 3);
        engine.undo();
        Checks.same("patternCount", engine.patternCount(), 4);
    }

    private static void patternLength() {
        RegexTracer engine = Engines.with("", "", "a", "[^ab]*|c", Engines.repeated("a?", 15));
        Checks.same("patternLength", engine.patternLength(0), 0);
        Checks.same("patternLength", engine.patternLength(1), 1);
        Checks.same("patternLength", engine.patternLength(2), 8);
        Checks.same("patternLength", engine.patternLength(3), 30);
        Engines.refuses(engine, "patternLength", OUTSIDE, () -> engine.patternLength(-1));
        Engines.refuses(engine, "patternLength", OUTSIDE, () -> engine.patternLength(4));
    }

    private static void patternCharacter() {
        RegexTracer engine = Engines.with("", "", "(a|[^b])* ");
        Checks.same("pattern", Engines.patternOf(engine, 1), "(a|[^b])* ");
        int[] wrong = {-1, 10, 30, Integer.MIN_VALUE, Integer.MAX_VALUE};
        for (int index : wrong) {
            Engines.refuses(engine, "patternCharacter", OUTSIDE, () -> engine.patternCharacter(1, index));
        }
        Engines.refuses(engine, "patternCharacter", OUTSIDE, () -> engine.patternCharacter(0, 0));
        Engines.refuses(engine, "patternCharacter", OUTSIDE, () -> engine.patternCharacter(2, 0));
        Engines.refuses(engine, "patternCharacter", OUTSIDE, () -> engine.patternCharacter(-1, 0));
    }

    private static void groupCount() {
        RegexTracer engine = Engines.with("", "a", "(a)", "(a(b)|(c)?)", "()((()))(a)");
        Checks.same("groupCount", engine.groupCount(0), 0);
        Checks.same("groupCount", engine.groupCount(1), 1);
        Checks.same("groupCount", engine.groupCount(2), 3);
        Checks.same("groupCount", engine.groupCount(3), 5);
        Engines.refuses(engine, "groupCount", OUTSIDE, () -> engine.groupCount(-1));
        Engines.refuses(engine, "groupCount", OUTSIDE, () -> engine.groupCount(4));
    }

    private static void minimumLength() {
        String[] patterns = {"", "a", "ab c", "a|", "abc|ab|abcd", "a*", "a+", "a?b", "(ab|c)+d", "(abc)?", "[abc].",
            "[^a]+[b]", "((ab)+c|abcd)", "()", "a(b|cd(e|fg))", Engines.repeated("a", 30), "abc|(de)?f"};
        int[] due = {0, 1, 4, 0, 2, 0, 1, 1, 2, 0, 2, 2, 3, 0, 2, 30, 1};
        for (int index = 0; index < patterns.length; index++) {
            RegexTracer engine = Engines.with("", patterns[index]);
            Checks.same("minimumLength of " + patterns[index], engine.minimumLength(0), due[index]);
        }
        RegexTracer engine = Engines.with("", "a");
        Engines.refuses(engine, "minimumLength", OUTSIDE, () -> engine.minimumLength(1));
        Engines.refuses(engine, "minimumLength", OUTSIDE, () -> engine.minimumLength(-1));
    }

    private static void maximumLength() {
        String[] patterns = {"", "a", "ab c", "a|", "abc|ab|abcd", "a?b", "(ab|c)?d", "(abc)?", "[abc].", "()", "()?",
            "a(b|cd(e|fg))", Engines.repeated("a", 30), Engines.repeated("a?", 15), "a|bc|"};
        int[] due = {0, 1, 4, 1, 4, 2, 3, 3, 2, 0, 0, 5, 30, 15, 2};
        for (int index = 0; index < patterns.length; index++) {
            RegexTracer engine = Engines.with("", patterns[index]);
            Checks.same("maximumLength of " + patterns[index], engine.maximumLength(0), due[index]);
        }
        RegexTracer engine = Engines.with("", "a");
        Engines.refuses(engine, "maximumLength", OUTSIDE, () -> engine.maximumLength(1));
        Engines.refuses(engine, "maximumLength", OUTSIDE, () -> engine.maximumLength(-1));
    }

    private static void noMaximumLength() {
        String[] patterns = {"a*", "a+", "abc|d*", "(a+)?b", "x(a|(b|c+))y", "(a*)?", Engines.repeated("a+", 15),
            "(((((a)+)+)+)+)+"};
        for (String pattern : patterns) {
            RegexTracer engine = Engines.with("", pattern);
            Engines.refuses(engine, "maximumLength of " + pattern, MISSING, () -> engine.maximumLength(0));
        }
    }

    private static void noFault() {
        RegexTracer engine = Engines.with("a", "a");
        Checks.fails("faultPosition", MISSING, engine::faultPosition);
        Checks.fails("faultKind", MISSING, engine::faultKind);
        Checks.fails("faultDepth", MISSING, engine::faultDepth);
    }

    private static void faultsOfRepeats() {
        due("*", "0,1,0");
        due("+a", "0,1,0");
        due("?", "0,1,0");
        due("a**", "2,1,0");
        due("a*?", "2,1,0");
        due("a?+", "2,1,0");
        due("a|*", "2,1,0");
        due("(+", "1,1,1");
        due("(a?)*b", "4,1,0");
        due("((a|b*)+)", "7,1,1");
        due("(a)?(|)?+", "8,1,0");
        due("x(a*b?)+", "7,1,0");
        due("()*", "2,1,0");
        due("((a))+((b)?)+", "12,1,0");
        due("((a?)?)?*", "8,1,0");
    }

    private static void faultsOfGroups() {
        due(")", "0,2,0");
        due("a)b", "1,2,0");
        due("(a))", "3,2,0");
        due("(", "1,5,1");
        due("(a|(b", "5,5,2");
        due("((((((", "5,3,5");
        due("()()()()()(", "10,3,0");
        due("(()()()(", "8,5,2");
        due("(()()()()(", "9,3,1");
        due("(a)(b)(c)(d)(e)(f)", "15,3,0");
        due("(((((a)))))(", "11,3,0");
        due("(((((a))))", "10,5,1");
    }

    private static void faultsInBrackets() {
        due("[", "1,5,0");
        due("[^", "2,5,0");
        due("[a", "2,5,0");
        due("[^ab", "4,5,0");
        due("([a", "3,5,1");
        due("[]", "1,4,0");
        due("[^]", "2,4,0");
        due("[^^", "2,4,0");
        due("[a^]", "2,4,0");
        due("[a*]", "2,1,0");
        due("[+", "1,1,0");
        due("[?", "1,1,0");
        due("((([(", "4,3,3");
        due("([a)", "3,2,1");
        due("[)", "1,2,0");
        due("[.]", "1,4,0");
        due("[a|b]", "2,4,0");
        due("[a[b]]", "2,4,0");
        due("[a]]", "3,4,0");
        due("[A]", "1,4,0");
    }

    private static void otherFaults() {
        due("]", "0,4,0");
        due("^", "0,4,0");
        due("a]", "1,4,0");
        due("(b^", "2,4,1");
        due("A", "0,4,0");
        due("a-z", "1,4,0");
        due("a`", "1,4,0");
        due("a{", "1,4,0");
        due("a/", "1,4,0");
        due("a:", "1,4,0");
        due("a!", "1,4,0");
        due(Engines.repeated("(", 1) + Engines.repeated("a", 29), "30,5,1");
        due(Engines.repeated("a", 29) + "(", "30,5,1");
        due(Engines.repeated("a", 29) + "[", "30,5,0");
        due(Engines.repeated("a", 29) + ")", "29,2,0");
    }

    private static void due(String pattern, String fault) {
        RegexTracer engine = new RegexTracer();
        Engines.typePattern(engine, pattern);
        Checks.fails("compile of " + pattern, ARGUMENT, engine::compile);
        Checks.same("fault of " + pattern, Engines.faultOf(engine), fault);
    }

    private static void faultStays() {
        RegexTracer engine = Engines.with("ab", "a");
        Engines.typePattern(engine, "(a*)*");
        Checks.fails("compile", ARGUMENT, engine::compile);
        Engines.pattern(engine, "b");
        engine.saveSnapshot();
        engine.undo();
        engine.restoreSnapshot();
        Checks.same("fault", Engines.faultOf(engine), "4,1,0");
        Engines.typePattern(engine, "(a");
        Checks.fails("compile", ARGUMENT, engine::compile);
        Checks.same("fault", Engines.faultOf(engine), "2,5,1");
        engine.compile();
        engine.compile();
        engine.typePattern(')');
        Checks.fails("compile", STATE, engine::compile);
        Checks.same("fault", Engines.faultOf(engine), "2,5,1");
    }
}
