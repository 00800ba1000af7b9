/** Makes engines and reads what can be seen of them. */
final class Engines {
    private Engines() {
    }

    static RegexTracer with(String text, String... patterns) {
        RegexTracer engine = new RegexTracer();
        for (String pattern : patterns) {
            pattern(engine, pattern);
        }
        text(engine, text);
        return engine;
    }

    static void typePattern(RegexTracer engine, String characters) {
        for (int index = 0; index < characters.length(); index++) {
            engine.typePattern(characters.charAt(index));
        }
    }

    static void typeText(RegexTracer engine, String characters) {
        for (int index = 0; index < characters.length(); index++) {
            engine.typeText(characters.charAt(index));
        }
    }

    static int pattern(RegexTracer engine, String characters) {
        typePattern(engine, characters);
        return engine.compile();
    }

    static int text(RegexTracer engine, String characters) {
        typeText(engine, characters);
        return engine.setText();
    }

    static String repeated(String part, int times) {
        return part.repeat(times);
    }

    static String textOf(RegexTracer engine) {
        StringBuilder text = new StringBuilder();
        for (int index = 0; index < engine.textLength(); index++) {
            text.append(engine.textCharacter(index));
        }
        return text.toString();
    }

    static String patternOf(RegexTracer engine, int pattern) {
        StringBuilder text = new StringBuilder();
        for (int index = 0; index < engine.patternLength(pattern); index++) {
            text.append(engine.patternCharacter(pattern, index));
        }
        return text.toString();
    }

    static String patternsOf(RegexTracer engine) {
        StringBuilder text = new StringBuilder();
        for (int pattern = 0; pattern < engine.patternCount(); pattern++) {
            text.append('/').append(patternOf(engine, pattern));
        }
        return text.toString();
    }

    static String lineOf(RegexTracer engine) {
        StringBuilder text = new StringBuilder();
        for (int index = 0; index < 200; index++) {
            try {
                text.append(engine.lineCharacter(index));
            } catch (IndexOutOfBoundsException end) {
                break;
            }
        }
        return text.toString();
    }

    static String faultOf(RegexTracer engine) {
        try {
            return engine.faultPosition() + "," + engine.faultKind() + "," + engine.faultDepth();
        } catch (java.util.NoSuchElementException none) {
            return "none";
        }
    }

    /** The text between the bars of each match, with the start before it. */
    static String matchesOf(RegexTracer engine, int pattern) {
        StringBuilder text = new StringBuilder();
        for (int match = 0; match < engine.matchCount(pattern); match++) {
            text.append(engine.matchStart(pattern, match)).append('+');
            text.append(engine.matchLength(pattern, match)).append(' ');
        }
        return text.toString().trim();
    }

    /** The match found from a position on as writeMatch writes it. */
    static String matchOf(RegexTracer engine, int pattern, int from) {
        int length = engine.writeMatch(pattern, from);
        String line = lineOf(engine);
        Checks.same("the length of the line", length, line.length());
        return line;
    }

    /** All that can be seen without a change. */
    static String seen(RegexTracer engine) {
        return patternsOf(engine) + " " + textOf(engine) + " " + engine.undoCount()
                + " " + faultOf(engine) + " " + lineOf(engine);
    }

    /** The call must fail and leave all that can be seen as it was. */
    static void refuses(RegexTracer engine, String what, Class<? extends RuntimeException> due, Checks.Body call) {
        String before = seen(engine);
        Checks.fails(what, due, call);
        Checks.same("what is seen after " + what, seen(engine), before);
    }
}
