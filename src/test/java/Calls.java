/** Calls an engine by the name of the call; answers as Model does. */
final class Calls {
    static final String[] NAMES = {"typePattern", "compile", "removePattern", "patternCount", "patternLength",
        "patternCharacter", "groupCount", "minimumLength", "maximumLength", "faultPosition", "faultKind",
        "faultDepth", "typeText", "setText", "insertText", "deleteText", "replaceMatches", "textLength",
        "textCharacter", "matchesAll", "matchesAllByThreads", "find", "findEnd", "findByThreads",
        "findEndByThreads", "isGroupSet", "groupStart", "groupEnd", "matchCount", "matchStart", "matchLength",
        "longestMatch", "matchedCharacters", "patternByMatches", "meanMatchLength", "coverage", "isConsistent",
        "writeMatch", "writeMarked", "lineCharacter", "undo", "undoCount", "saveSnapshot", "restoreSnapshot"};

    private Calls() {
    }

    /** An exception of the machine is of a class below those of the document, so its own name is told. */
    static String call(RegexTracer engine, String name, int a, int b, int c) {
        try {
            return answer(engine, name, a, b, c);
        } catch (RuntimeException thrown) {
            StackTraceElement[] trace = thrown.getStackTrace();
            boolean own = trace.length > 0 && trace[0].getClassName().startsWith("RegexTracer");
            return "throws." + (own ? "" : "elsewhere.") + thrown.getClass().getSimpleName();
        }
    }

    private static String answer(RegexTracer engine, String name, int a, int b, int c) {
        return switch (name) {
            case "typePattern" -> "" + engine.typePattern((char) a);
            case "compile" -> "" + engine.compile();
            case "removePattern" -> "" + engine.removePattern(a);
            case "patternCount" -> "" + engine.patternCount();
            case "patternLength" -> "" + engine.patternLength(a);
            case "patternCharacter" -> "" + (int) engine.patternCharacter(a, b);
            case "groupCount" -> "" + engine.groupCount(a);
            case "minimumLength" -> "" + engine.minimumLength(a);
            case "maximumLength" -> "" + engine.maximumLength(a);
            case "faultPosition" -> "" + engine.faultPosition();
            case "faultKind" -> "" + engine.faultKind();
            case "faultDepth" -> "" + engine.faultDepth();
            case "typeText" -> "" + engine.typeText((char) a);
            case "setText" -> "" + engine.setText();
            case "insertText" -> "" + engine.insertText(a);
            case "deleteText" -> "" + engine.deleteText(a, b);
            case "replaceMatches" -> "" + engine.replaceMatches(a, (char) b);
            case "textLength" -> "" + engine.textLength();
            case "textCharacter" -> "" + (int) engine.textCharacter(a);
            case "matchesAll" -> "" + engine.matchesAll(a);
            case "matchesAllByThreads" -> "" + engine.matchesAllByThreads(a);
            case "find" -> "" + engine.find(a, b);
            case "findEnd" -> "" + engine.findEnd(a, b);
            case "findByThreads" -> "" + engine.findByThreads(a, b);
            case "findEndByThreads" -> "" + engine.findEndByThreads(a, b);
            case "isGroupSet" -> "" + engine.isGroupSet(a, b, c);
            case "groupStart" -> "" + engine.groupStart(a, b, c);
            case "groupEnd" -> "" + engine.groupEnd(a, b, c);
            case "matchCount" -> "" + engine.matchCount(a);
            case "matchStart" -> "" + engine.matchStart(a, b);
            case "matchLength" -> "" + engine.matchLength(a, b);
            case "longestMatch" -> "" + engine.longestMatch(a);
            case "matchedCharacters" -> "" + engine.matchedCharacters(a);
            case "patternByMatches" -> "" + engine.patternByMatches(a);
            case "meanMatchLength" -> "" + engine.meanMatchLength(a);
            case "coverage" -> "" + engine.coverage(a);
            case "isConsistent" -> "" + engine.isConsistent();
            case "writeMatch" -> "" + engine.writeMatch(a, b);
            case "writeMarked" -> "" + engine.writeMarked(a);
            case "lineCharacter" -> "" + (int) engine.lineCharacter(a);
            case "undo" -> "" + engine.undo();
            case "undoCount" -> "" + engine.undoCount();
            case "saveSnapshot" -> "" + engine.saveSnapshot();
            case "restoreSnapshot" -> "" + engine.restoreSnapshot();
            default -> throw new IllegalArgumentException(name);
        };
    }
}
