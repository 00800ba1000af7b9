/** Promises 42 to 45. */
public final class ChangeTests {
    private static final Class<IllegalStateException> STATE = IllegalStateException.class;
    private static final Class<IllegalArgumentException> ARGUMENT = IllegalArgumentException.class;

    public static void main(String[] arguments) {
        Checks.test("promise 42: undo of each change", ChangeTests::undoEach);
        Checks.test("promise 42: undo of nothing", ChangeTests::undoNothing);
        Checks.test("promise 42: the latest 8 changes", ChangeTests::undoEight);
        Checks.test("promise 42: changes after undo", ChangeTests::changeAfterUndo);
        Checks.test("promise 42: what undo leaves", ChangeTests::undoLeaves);
        Checks.test("promise 43: undoCount", ChangeTests::undoCount);
        Checks.test("promise 43: what is no change", ChangeTests::noChange);
        Checks.test("promise 44: saveSnapshot", ChangeTests::saveSnapshot);
        Checks.test("promise 45: restoreSnapshot", ChangeTests::restoreSnapshot);
        Checks.test("promise 45: no snapshot", ChangeTests::noSnapshot);
        Checks.test("promise 45: what restoreSnapshot leaves", ChangeTests::restoreLeaves);
        Checks.end();
    }

    private static void due(RegexTracer engine, String patterns, String text, int undoable) {
        Checks.same("patterns", Engines.patternsOf(engine), patterns);
        Checks.same("text", Engines.textOf(engine), text);
        Checks.same("undoCount", engine.undoCount(), undoable);
    }

    private static void undoEach() {
        RegexTracer engine = Engines.with("abc", "a", "b");
        engine.replaceMatches(0, 'x');
        Engines.typeText(engine, "12");
        engine.insertText(1);
        engine.deleteText(0, 2);
        engine.removePattern(0);
        due(engine, "/b", "2bc", 7);
        Checks.same("undo", engine.undo(), 6);
        due(engine, "/a/b", "2bc", 6);
        Checks.same("undo", engine.undo(), 5);
        due(engine, "/a/b", "x12bc", 5);
        Checks.same("undo", engine.undo(), 4);
        due(engine, "/a/b", "xbc", 4);
        Checks.same("undo", engine.undo(), 3);
        due(engine, "/a/b", "abc", 3);
        Checks.same("matchCount", engine.matchCount(0), 1);
        Checks.same("undo", engine.undo(), 2);
        due(engine, "/a/b", "", 2);
        Checks.same("undo", engine.undo(), 1);
        due(engine, "/a", "", 1);
        Checks.same("undo", engine.undo(), 0);
        due(engine, "", "", 0);
    }

    private static void undoNothing() {
        RegexTracer engine = new RegexTracer();
        Engines.refuses(engine, "undo", STATE, engine::undo);
        engine.compile();
        engine.undo();
        Engines.refuses(engine, "undo", STATE, engine::undo);
    }

    private static void undoEight() {
        RegexTracer engine = new RegexTracer();
        for (int count = 1; count <= 20; count++) {
            Engines.text(engine, Engines.repeated("a", count));
            Checks.same("undoCount", engine.undoCount(), Math.min(count, 8));
        }
        for (int left = 7; left >= 0; left--) {
            Checks.same("undo", engine.undo(), left);
            Checks.same("textLength", engine.textLength(), 12 + left);
        }
        Engines.refuses(engine, "undo", STATE, engine::undo);
    }

    private static void changeAfterUndo() {
        RegexTracer engine = new RegexTracer();
        for (int count = 1; count <= 11; count++) {
            Engines.text(engine, Engines.repeated("a", count));
        }
        engine.undo();
        engine.undo();
        engine.undo();
        due(engine, "", "aaaaaaaa", 5);
        Engines.text(engine, "b");
        Engines.text(engine, "bb");
        due(engine, "", "bb", 7);
        for (int count = 3; count <= 6; count++) {
            Engines.text(engine, Engines.repeated("b", count));
        }
        due(engine, "", "bbbbbb", 8);
        for (int count = 0; count < 5; count++) {
            engine.undo();
        }
        due(engine, "", "b", 3);
        engine.undo();
        due(engine, "", "aaaaaaaa", 2);
        engine.undo();
        engine.undo();
        due(engine, "", "aaaaaa", 0);
    }

    private static void undoLeaves() {
        RegexTracer engine = Engines.with("ab", "a");
        engine.typePattern('x');
        engine.typeText('y');
        engine.writeMarked(0);
        engine.undo();
        engine.undo();
        Checks.same("line", Engines.lineOf(engine), "<a>b");
        Checks.same("typePattern", engine.typePattern('z'), 2);
        Checks.same("typeText", engine.typeText('z'), 2);
        engine.compile();
        engine.setText();
        due(engine, "/xz", "yz", 2);
        Engines.typePattern(engine, "(");
        Checks.fails("compile", ARGUMENT, engine::compile);
        engine.undo();
        Checks.same("fault", Engines.faultOf(engine), "1,5,1");
    }

    private static void undoCount() {
        RegexTracer engine = new RegexTracer();
        Checks.same("undoCount", engine.undoCount(), 0);
        engine.compile();
        Checks.same("undoCount", engine.undoCount(), 1);
        engine.setText();
        Checks.same("undoCount", engine.undoCount(), 2);
        engine.insertText(0);
        Checks.same("undoCount", engine.undoCount(), 3);
        engine.deleteText(0, 0);
        Checks.same("undoCount", engine.undoCount(), 4);
        engine.replaceMatches(0, 'a');
        Checks.same("undoCount", engine.undoCount(), 5);
        engine.removePattern(0);
        Checks.same("undoCount", engine.undoCount(), 6);
        Engines.pattern(engine, "x");
        Checks.same("replaceMatches", engine.replaceMatches(0, 'a'), 0);
        Checks.same("undoCount", engine.undoCount(), 8);
        engine.setText();
        Checks.same("undoCount", engine.undoCount(), 8);
    }

    private static void noChange() {
        RegexTracer engine = Engines.with("abc", "a");
        engine.typePattern('(');
        Checks.fails("compile", ARGUMENT, engine::compile);
        engine.typeText('a');
        engine.saveSnapshot();
        engine.writeMatch(0, 0);
        engine.writeMarked(0);
        engine.matchCount(0);
        engine.isConsistent();
        Checks.same("undoCount", engine.undoCount(), 2);
        engine.undo();
        Checks.same("undoCount", engine.undoCount(), 1);
    }

    private static void saveSnapshot() {
        RegexTracer engine = new RegexTracer();
        Checks.same("saveSnapshot", engine.saveSnapshot(), 0);
        Engines.pattern(engine, "a");
        Engines.pattern(engine, "b");
        Engines.text(engine, "abc");
        Checks.same("saveSnapshot", engine.saveSnapshot(), 2);
        due(engine, "/a/b", "abc", 3);
        engine.removePattern(0);
        engine.deleteText(0, 1);
        engine.restoreSnapshot();
        due(engine, "/a/b", "abc", 0);
        engine.removePattern(1);
        Checks.same("saveSnapshot", engine.saveSnapshot(), 1);
        Engines.text(engine, "x");
        engine.restoreSnapshot();
        due(engine, "/a", "abc", 0);
    }

    private static void restoreSnapshot() {
        RegexTracer engine = Engines.with("abc", "a");
        engine.saveSnapshot();
        Engines.pattern(engine, "b");
        Engines.text(engine, "xy");
        Checks.same("restoreSnapshot", engine.restoreSnapshot(), 1);
        due(engine, "/a", "abc", 0);
        Engines.refuses(engine, "undo", STATE, engine::undo);
        engine.deleteText(0, 1);
        due(engine, "/a", "bc", 1);
        Checks.same("restoreSnapshot", engine.restoreSnapshot(), 1);
        due(engine, "/a", "abc", 0);
        engine.removePattern(0);
        engine.undo();
        due(engine, "/a", "abc", 0);
        for (int count = 0; count < 12; count++) {
            engine.setText();
        }
        Checks.same("restoreSnapshot", engine.restoreSnapshot(), 1);
        due(engine, "/a", "abc", 0);
        engine.deleteText(0, 1);
        engine.deleteText(0, 1);
        Checks.same("undo", engine.undo(), 1);
        Checks.same("undo", engine.undo(), 0);
        due(engine, "/a", "abc", 0);
    }

    private static void noSnapshot() {
        RegexTracer engine = Engines.with("abc", "a");
        Engines.refuses(engine, "restoreSnapshot", STATE, engine::restoreSnapshot);
        due(engine, "/a", "abc", 2);
    }

    private static void restoreLeaves() {
        RegexTracer engine = Engines.with("ab", "a");
        Checks.same("saveSnapshot", engine.saveSnapshot(), 1);
        Engines.typePattern(engine, "a**");
        Checks.fails("compile", ARGUMENT, engine::compile);
        engine.writeMarked(0);
        engine.typePattern('x');
        engine.typeText('y');
        engine.restoreSnapshot();
        Checks.same("line", Engines.lineOf(engine), "<a>b");
        Checks.same("fault", Engines.faultOf(engine), "2,1,0");
        Checks.same("typePattern", engine.typePattern('z'), 2);
        Checks.same("typeText", engine.typeText('z'), 2);
    }
}
