/** The boundaries of promises 42 to 45: what can be undone, what is forgotten, and the snapshot. */
public final class ChangeEdgeTests {
    private static final String FORTY = "abcdefgh".repeat(5);

    public static void main(String[] arguments) {
        nothingToUndo();
        eachChange();
        eightChanges();
        ninthChange();
        changesAfterUndo();
        leftByUndo();
        counts();
        notCounted();
        refusedNotCounted();
        savedSnapshots();
        restoredSnapshots();
        nothingToUndoAfterRestore();
        leftBySnapshots();
        Checks.end();
    }

    /** Sets texts of 1 to so many characters, each a change. */
    private static void texts(Run run, int count) {
        for (int length = 1; length <= count; length++) {
            run.text("a".repeat(length));
        }
    }

    private static void nothingToUndo() {
        Run.test("promise 42: nothing to undo in a new object", run -> run
                .refuses(Run.STATE, "undo"));
        Run.test("promise 42: nothing to undo behind the only change", run -> run
                .text("ab")
                .due(0, "undo")
                .refuses(Run.STATE, "undo")
                .shows(Remains.TEXT, ""));
        Run.test("promise 42: undo is no change that can be undone", run -> run
                .text("ab").text("cd")
                .due(1, "undo").due(0, "undo")
                .refuses(Run.STATE, "undo"));
        Run.test("promise 42: nothing to undo after what is no change", run -> run
                .typesPattern("a").typesText("b").does("saveSnapshot")
                .refuses(Run.STATE, "undo"));
        Run.test("promise 42: nothing to undo after what was refused", run -> run
                .faults("0,2,0", ")")
                .refuses(Run.OUTSIDE, "deleteText", 0, 1)
                .refuses(Run.STATE, "undo"));
    }

    private static void eachChange() {
        Run.test("promise 42: undo of compile", run -> run
                .patterns("a", "b")
                .due(1, "undo").shows(Remains.PATTERNS, "/a")
                .due(0, "undo").shows(Remains.PATTERNS, ""));
        Run.test("promise 42: undo of compile of the 4th pattern", run -> run
                .patterns("a", "b", "c", "d")
                .due(3, "undo").shows(Remains.PATTERNS, "/a/b/c")
                .typesPattern("e").due(3, "compile").shows(Remains.PATTERNS, "/a/b/c/e"));
        Run.test("promise 42: undo of removePattern", run -> run
                .patterns("a", "b", "c").text("bb").does("removePattern", 1)
                .due(4, "undo").shows(Remains.PATTERNS, "/a/b/c")
                .due(2, "matchCount", 1));
        Run.test("promise 42: undo of removePattern of the only pattern", run -> run
                .patterns("a").does("removePattern", 0)
                .due(1, "undo").shows(Remains.PATTERNS, "/a"));
        Run.test("promise 42: undo of setText", run -> run
                .text("ab").text("c")
                .due(1, "undo").shows(Remains.TEXT, "ab")
                .due(0, "undo").shows(Remains.TEXT, ""));
        Run.test("promise 42: undo of insertText", run -> run
                .text("ab").typesText("cd").does("insertText", 1)
                .due(1, "undo").shows(Remains.TEXT, "ab"));
        Run.test("promise 42: undo of deleteText", run -> run
                .text("abc").does("deleteText", 0, 2)
                .due(1, "undo").shows(Remains.TEXT, "abc"));
        Run.test("promise 42: undo of replaceMatches", run -> run
                .patterns("b").text("abcb").does("replaceMatches", 0, 'x').shows(Remains.TEXT, "axcx")
                .due(2, "undo").shows(Remains.TEXT, "abcb"));
        Run.test("promise 42: undo of a text of 40", run -> run
                .text(FORTY).does("deleteText", 0, 40)
                .due(1, "undo").shows(Remains.TEXT, FORTY));
    }

    private static void eightChanges() {
        Run.test("promise 42: all of 8 changes are undone", run -> {
            texts(run, 8);
            for (int left = 7; left >= 0; left--) {
                run.due(left, "undo").shows(Remains.TEXT, "a".repeat(left));
            }
            run.refuses(Run.STATE, "undo");
        });
        Run.test("promise 42: 8 changes that alter nothing are undone", run -> {
            run.times(8, "setText");
            for (int left = 7; left >= 0; left--) {
                run.due(left, "undo");
            }
            run.refuses(Run.STATE, "undo");
        });
        Run.test("promise 42: changes of patterns and of the text are undone in their order", run -> run
                .patterns("a").text("x").patterns("b").text("y").does("removePattern", 0)
                .due(4, "undo").shows(Remains.PATTERNS, "/a/b").shows(Remains.TEXT, "y")
                .due(3, "undo").shows(Remains.PATTERNS, "/a/b").shows(Remains.TEXT, "x")
                .due(2, "undo").shows(Remains.PATTERNS, "/a").shows(Remains.TEXT, "x")
                .due(1, "undo").shows(Remains.PATTERNS, "/a").shows(Remains.TEXT, "")
                .due(0, "undo").shows(Remains.PATTERNS, ""));
    }

    private static void ninthChange() {
        Run.test("promise 42: a 9th change makes the first one forgotten", run -> {
            texts(run, 9);
            for (int left = 7; left >= 0; left--) {
                run.due(left, "undo").shows(Remains.TEXT, "a".repeat(left + 1));
            }
            run.refuses(Run.STATE, "undo").shows(Remains.TEXT, "a");
        });
        Run.test("promise 42: a pattern whose compile is forgotten stays", run -> {
            texts(run.patterns("p"), 8);
            run.times(7, "undo")
                    .due(0, "undo").shows(Remains.PATTERNS, "/p").shows(Remains.TEXT, "")
                    .refuses(Run.STATE, "undo");
        });
        Run.test("promise 42: of 20 changes the latest 8 are undone", run -> {
            texts(run, 20);
            run.times(7, "undo")
                    .due(0, "undo").shows(Remains.TEXT, "a".repeat(12))
                    .refuses(Run.STATE, "undo");
        });
        Run.test("promise 42: a refused call makes no change forgotten", run -> {
            texts(run, 8);
            run.refuses(Run.OUTSIDE, "deleteText", 0, 9).faults("0,2,0", ")")
                    .times(7, "undo")
                    .due(0, "undo").shows(Remains.TEXT, "");
        });
    }

    private static void changesAfterUndo() {
        Run.test("promise 42: what was undone does not come back", run -> run
                .text("a").text("b").does("undo").text("c")
                .due(1, "undo").shows(Remains.TEXT, "a")
                .due(0, "undo").shows(Remains.TEXT, ""));
        Run.test("promise 42: undo makes room for more changes, not for forgotten ones", run -> {
            texts(run, 10);
            run.times(3, "undo").text("b").text("bb").text("bbb")
                    .due(8, "undoCount")
                    .times(7, "undo")
                    .due(0, "undo").shows(Remains.TEXT, "aa")
                    .refuses(Run.STATE, "undo");
        });
        Run.test("promise 42: a change after all 8 were undone", run -> {
            texts(run, 12);
            run.times(8, "undo").text("b")
                    .due(0, "undo").shows(Remains.TEXT, "aaaa")
                    .refuses(Run.STATE, "undo");
        });
    }

    private static void leftByUndo() {
        Run.test("promise 42: undo leaves the pattern buffer", run -> run
                .patterns("a").typesPattern("bc")
                .due(0, "undo")
                .due(3, "typePattern", 'd').due(0, "compile").shows(Remains.PATTERNS, "/bcd"));
        Run.test("promise 42: undo leaves the pattern buffer that compile emptied", run -> run
                .patterns("a")
                .due(0, "undo")
                .due(1, "typePattern", 'd'));
        Run.test("promise 42: undo leaves the text buffer", run -> run
                .text("a").typesText("bc")
                .due(0, "undo")
                .due(3, "typeText", 'd').due(3, "setText").shows(Remains.TEXT, "bcd"));
        Run.test("promise 42: undo leaves the text buffer that setText emptied", run -> run
                .text("a")
                .due(0, "undo")
                .due(1, "typeText", 'd'));
        Run.test("promise 42: undo leaves the text buffer that insertText emptied", run -> run
                .typesText("a").does("insertText", 0)
                .due(0, "undo")
                .due(1, "typeText", 'd'));
        Run.test("promise 42: undo leaves the fault", run -> run
                .patterns("a").faults("0,2,0", ")")
                .due(0, "undo").shows(Remains.FAULT, "0,2,0"));
        Run.test("promise 42: undo leaves the snapshot", run -> run
                .patterns("a").does("saveSnapshot")
                .due(0, "undo").shows(Remains.PATTERNS, "")
                .due(1, "restoreSnapshot").shows(Remains.PATTERNS, "/a"));
    }

    private static void counts() {
        Run.test("promise 43: from 0 to 8 changes", run -> {
            run.due(0, "undoCount");
            for (int count = 1; count <= 8; count++) {
                run.does("setText").due(count, "undoCount");
            }
        });
        Run.test("promise 43: the 9th change and later ones leave it at 8", run -> run
                .times(8, "setText").due(8, "undoCount")
                .does("setText").due(8, "undoCount")
                .times(9, "setText").due(8, "undoCount"));
        Run.test("promise 43: undo takes one away", run -> run
                .times(9, "setText")
                .due(7, "undo").due(7, "undoCount")
                .does("setText").due(8, "undoCount"));
        changes("compile", run -> run.does("compile"));
        changes("removePattern", run -> run.does("removePattern", 0));
        changes("setText", run -> run.does("setText"));
        changes("insertText", run -> run.does("insertText", 0));
        changes("deleteText", run -> run.does("deleteText", 0, 1));
        changes("replaceMatches", run -> run.does("replaceMatches", 0, 'x'));
        changes("insertText of nothing", run -> run.does("setText").does("undo").does("insertText", 2));
        changes("deleteText of nothing", run -> run.does("deleteText", 1, 1));
        changes("replaceMatches without a match", run -> run.does("replaceMatches", 1, 'x'));
    }

    private static void changes(String sentence, java.util.function.Consumer<Run> call) {
        Run.test("promise 43: a change is " + sentence, run -> {
            run.patterns("a", "y").text("ab").typesText("c").typesPattern("b");
            call.accept(run);
            run.due(4, "undoCount");
        });
    }

    private static void notCounted() {
        Run.test("promise 43: what is typed is no change", run -> run
                .patterns("a").text("ab")
                .due(1, "typePattern", 'b').due(1, "typeText", 'c')
                .due(2, "undoCount"));
        Run.test("promise 43: the output line is no change", run -> run
                .patterns("a").text("ab")
                .writes("0-1", "writeMatch", 0, 0).writes("<a>b", "writeMarked", 0)
                .due(2, "undoCount"));
        Run.test("promise 43: a saved snapshot is no change", run -> run
                .patterns("a").text("ab")
                .due(1, "saveSnapshot")
                .due(2, "undoCount"));
        Run.test("promise 43: what only looks is no change", run -> run
                .patterns("a").text("ab")
                .due(true, "isConsistent").due(1, "matchCount", 0).due(0, "find", 0, 0)
                .due(2, "undoCount"));
    }

    private static void refusedNotCounted() {
        Run.test("promise 43: a refused compile is no change", run -> run
                .faults("0,1,0", "*").due(0, "undoCount")
                .patterns("a", "b", "c", "d").refuses(Run.STATE, "compile")
                .due(4, "undoCount"));
        Run.test("promise 43: a refused removePattern is no change", run -> run
                .patterns("a")
                .refuses(Run.OUTSIDE, "removePattern", 1)
                .due(1, "undoCount"));
        Run.test("promise 43: a refused insertText is no change", run -> run
                .text(FORTY).typesText("x")
                .refusesAndEmpties(Remains.TEXT_BUFFER, Run.STATE, "insertText", 0).typesText("x")
                .refusesAndEmpties(Remains.TEXT_BUFFER, Run.OUTSIDE, "insertText", 41)
                .due(1, "undoCount"));
        Run.test("promise 43: a refused deleteText is no change", run -> run
                .text("ab")
                .refuses(Run.OUTSIDE, "deleteText", 0, 3)
                .due(1, "undoCount"));
        Run.test("promise 43: a refused replaceMatches is no change", run -> run
                .patterns("").text(FORTY)
                .refuses(Run.OUTSIDE, "replaceMatches", 1, 'x')
                .refuses(Run.ARGUMENT, "replaceMatches", 0, 127)
                .refuses(Run.STATE, "replaceMatches", 0, 'x')
                .due(2, "undoCount"));
        Run.test("promise 43: a refused undo and a refused restoreSnapshot are no changes", run -> run
                .refuses(Run.STATE, "undo").due(0, "undoCount")
                .does("setText")
                .refuses(Run.STATE, "restoreSnapshot").due(1, "undoCount"));
    }

    private static void savedSnapshots() {
        Run.test("promise 44: a snapshot of a new object", run -> run
                .due(0, "saveSnapshot")
                .patterns("a").text("ab")
                .due(0, "restoreSnapshot").shows(Remains.PATTERNS, "").shows(Remains.TEXT, ""));
        Run.test("promise 44: a snapshot of 4 patterns and 40 characters", run -> run
                .patterns("a", "b", "c", "d").text(FORTY)
                .due(4, "saveSnapshot")
                .does("removePattern", 0).does("setText")
                .due(4, "restoreSnapshot").shows(Remains.PATTERNS, "/a/b/c/d").shows(Remains.TEXT, FORTY));
        Run.test("promise 44: a snapshot replaces an earlier one", run -> run
                .patterns("a", "b").text("ab")
                .due(2, "saveSnapshot").does("removePattern", 0).text("c")
                .due(1, "saveSnapshot").does("removePattern", 0).text("d")
                .due(1, "restoreSnapshot").shows(Remains.PATTERNS, "/b").shows(Remains.TEXT, "c"));
        Run.test("promise 44: an empty snapshot replaces an earlier one", run -> run
                .patterns("a").text("ab").does("saveSnapshot")
                .does("removePattern", 0).does("setText")
                .due(0, "saveSnapshot")
                .patterns("b").text("c")
                .due(0, "restoreSnapshot").shows(Remains.PATTERNS, "").shows(Remains.TEXT, ""));
        Run.test("promise 44: later changes do not reach the snapshot", run -> run
                .patterns("a").text("ab").does("saveSnapshot")
                .does("replaceMatches", 0, 'x').does("removePattern", 0).patterns("b", "c")
                .does("undo")
                .due(1, "restoreSnapshot").shows(Remains.PATTERNS, "/a").shows(Remains.TEXT, "ab"));
        Run.test("promise 44: changes before the snapshot can still be undone", run -> run
                .text("a").text("b")
                .due(0, "saveSnapshot")
                .due(1, "undo").shows(Remains.TEXT, "a"));
    }

    private static void restoredSnapshots() {
        Run.test("promise 45: no snapshot", run -> run
                .patterns("a").text("ab").typesText("c").typesPattern("d")
                .refuses(Run.STATE, "restoreSnapshot"));
        Run.test("promise 45: the snapshot is kept", run -> run
                .patterns("a").text("ab").does("saveSnapshot")
                .text("c").due(1, "restoreSnapshot").shows(Remains.TEXT, "ab")
                .does("removePattern", 0).text("d").due(1, "restoreSnapshot")
                .shows(Remains.TEXT, "ab").shows(Remains.PATTERNS, "/a"));
        Run.test("promise 45: changes after it was restored do not reach the snapshot", run -> run
                .patterns("a").text("ab").does("saveSnapshot").does("restoreSnapshot")
                .does("deleteText", 0, 1).does("removePattern", 0)
                .due(1, "restoreSnapshot").shows(Remains.TEXT, "ab").shows(Remains.PATTERNS, "/a"));
        Run.test("promise 45: a restored pattern matches as it did", run -> run
                .patterns("x", "(a)b").text("abab").does("saveSnapshot")
                .does("removePattern", 0).text("b")
                .due(2, "restoreSnapshot")
                .due(2, "matchCount", 1).due(1, "groupEnd", 1, 0, 1));
        Run.test("promise 45: after 4 patterns are restored there is no room for a 5th", run -> run
                .patterns("a", "b", "c", "d").does("saveSnapshot").does("removePattern", 0)
                .due(4, "restoreSnapshot")
                .refuses(Run.STATE, "compile"));
    }

    private static void nothingToUndoAfterRestore() {
        Run.test("promise 45: no change can be undone afterwards", run -> run
                .text("a").does("saveSnapshot").text("b")
                .due(0, "restoreSnapshot")
                .due(0, "undoCount")
                .refuses(Run.STATE, "undo").shows(Remains.TEXT, "a"));
        Run.test("promise 45: none of 9 changes can be undone afterwards", run -> {
            run.does("saveSnapshot");
            texts(run, 9);
            run.due(0, "restoreSnapshot")
                    .due(0, "undoCount")
                    .refuses(Run.STATE, "undo");
        });
        Run.test("promise 45: none can be undone even if nothing has changed since", run -> run
                .text("a").does("saveSnapshot")
                .due(0, "restoreSnapshot")
                .refuses(Run.STATE, "undo"));
        Run.test("promise 45: a change afterwards can be undone, up to the snapshot", run -> run
                .text("a").does("saveSnapshot").text("b").does("restoreSnapshot").text("c")
                .due(1, "undoCount")
                .due(0, "undo").shows(Remains.TEXT, "a")
                .refuses(Run.STATE, "undo"));
        Run.test("promise 45: a refused restoreSnapshot leaves what can be undone", run -> run
                .text("a")
                .refuses(Run.STATE, "restoreSnapshot")
                .due(0, "undo"));
        Run.test("promise 45: 9 changes afterwards, of which the latest 8 are undone", run -> {
            run.text("x").does("saveSnapshot").does("restoreSnapshot");
            texts(run, 9);
            run.due(8, "undoCount").times(7, "undo")
                    .due(0, "undo").shows(Remains.TEXT, "a");
        });
    }

    private static void leftBySnapshots() {
        Run.test("promise 45: restoreSnapshot leaves both buffers", run -> run
                .does("saveSnapshot").typesPattern("ab").typesText("cd")
                .due(0, "restoreSnapshot")
                .due(3, "typePattern", 'x').due(3, "typeText", 'y')
                .due(0, "compile").due(3, "setText")
                .shows(Remains.PATTERNS, "/abx").shows(Remains.TEXT, "cdy"));
        Run.test("promise 45: restoreSnapshot does not bring back a buffer", run -> run
                .typesPattern("ab").typesText("cd").does("saveSnapshot").does("compile").does("setText")
                .due(0, "restoreSnapshot")
                .due(1, "typePattern", 'x').due(1, "typeText", 'y'));
        Run.test("promise 45: restoreSnapshot leaves the fault", run -> run
                .does("saveSnapshot").faults("0,2,0", ")")
                .due(0, "restoreSnapshot").shows(Remains.FAULT, "0,2,0"));
        Run.test("promise 44: saveSnapshot leaves both buffers", run -> run
                .typesPattern("ab").typesText("cd")
                .due(0, "saveSnapshot")
                .due(3, "typePattern", 'x').due(3, "typeText", 'y'));
        Run.test("promise 44: saveSnapshot leaves the fault and the line", run -> run
                .patterns("a").text("ab").does("writeMarked", 0).faults("0,2,0", ")")
                .due(1, "saveSnapshot")
                .shows(Remains.FAULT, "0,2,0").shows(Remains.LINE, "<a>b"));
    }
}
