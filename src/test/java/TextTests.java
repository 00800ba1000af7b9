/** Promises 14 to 20. */
public final class TextTests {
    private static final Class<IndexOutOfBoundsException> OUTSIDE = IndexOutOfBoundsException.class;
    private static final Class<IllegalStateException> STATE = IllegalStateException.class;
    private static final Class<IllegalArgumentException> ARGUMENT = IllegalArgumentException.class;
    private static final String FORTY = Engines.repeated("abcdefgh", 5);

    public static void main(String[] arguments) {
        Checks.test("promise 14: typeText counts", TextTests::typeText);
        Checks.test("promise 14: typeText takes codes 32 to 126", TextTests::typeTextCodes);
        Checks.test("promise 14: typeText stops at 40", TextTests::typeTextFull);
        Checks.test("promise 15: setText", TextTests::setText);
        Checks.test("promise 16: insertText", TextTests::insertText);
        Checks.test("promise 16: insertText where there is no position", TextTests::insertOutside);
        Checks.test("promise 16: insertText of too much", TextTests::insertTooMuch);
        Checks.test("promise 17: deleteText", TextTests::deleteText);
        Checks.test("promise 17: deleteText outside", TextTests::deleteOutside);
        Checks.test("promise 18: replaceMatches", TextTests::replaceMatches);
        Checks.test("promise 18: replaceMatches refuses", TextTests::replaceRefused);
        Checks.test("promise 18: replaceMatches up to 40", TextTests::replaceToLimit);
        Checks.test("promise 19: textLength", TextTests::textLength);
        Checks.test("promise 20: textCharacter", TextTests::textCharacter);
        Checks.end();
    }

    private static void typeText() {
        RegexTracer engine = new RegexTracer();
        for (int count = 1; count <= 40; count++) {
            Checks.same("typeText", engine.typeText('x'), count);
        }
        Checks.same("textLength", engine.textLength(), 0);
        Checks.same("undoCount", engine.undoCount(), 0);
        Checks.same("setText", engine.setText(), 40);
    }

    private static void typeTextCodes() {
        RegexTracer engine = new RegexTracer();
        for (int code = 32; code <= 126; code++) {
            engine.setText();
            Checks.same("typeText", engine.typeText((char) code), 1);
            engine.setText();
            Checks.same("textCharacter", engine.textCharacter(0), code);
        }
        int[] wrong = {0, 9, 10, 31, 127, 128, 255, 256 + 'a', 0x8000 + 'a', 0xffff};
        for (int code : wrong) {
            Engines.refuses(engine, "typeText", ARGUMENT, () -> engine.typeText((char) code));
        }
        Checks.same("typeText", engine.typeText('a'), 1);
    }

    private static void typeTextFull() {
        RegexTracer engine = new RegexTracer();
        Engines.typeText(engine, FORTY);
        Engines.refuses(engine, "typeText", STATE, () -> engine.typeText('x'));
        Engines.refuses(engine, "typeText of a wrong code", ARGUMENT, () -> engine.typeText((char) 31));
        Checks.same("setText", engine.setText(), 40);
        Checks.same("text", Engines.textOf(engine), FORTY);
        Checks.same("typeText", engine.typeText('x'), 1);
    }

    private static void setText() {
        RegexTracer engine = new RegexTracer();
        Checks.same("setText", Engines.text(engine, "Hello, ~!"), 9);
        Checks.same("text", Engines.textOf(engine), "Hello, ~!");
        Checks.same("undoCount", engine.undoCount(), 1);
        Checks.same("the buffer is empty", engine.typeText('y'), 1);
        Checks.same("setText", engine.setText(), 1);
        Checks.same("text", Engines.textOf(engine), "y");
        Checks.same("setText", engine.setText(), 0);
        Checks.same("text", Engines.textOf(engine), "");
        Checks.same("undoCount", engine.undoCount(), 3);
    }

    private static void insertText() {
        RegexTracer engine = Engines.with("abc");
        Engines.typeText(engine, "XY");
        Checks.same("insertText", engine.insertText(1), 5);
        Checks.same("text", Engines.textOf(engine), "aXYbc");
        Checks.same("the buffer is empty", engine.typeText('0'), 1);
        Checks.same("insertText", engine.insertText(0), 6);
        engine.typeText('9');
        Checks.same("insertText", engine.insertText(6), 7);
        Checks.same("text", Engines.textOf(engine), "0aXYbc9");
        Checks.same("undoCount", engine.undoCount(), 4);
        Checks.same("insertText of nothing", engine.insertText(3), 7);
        Checks.same("undoCount", engine.undoCount(), 5);
    }

    private static void insertOutside() {
        int[] wrong = {-1, 4, 40, 41, Integer.MIN_VALUE, Integer.MAX_VALUE};
        for (int position : wrong) {
            RegexTracer engine = Engines.with("abc");
            engine.typeText('x');
            Engines.refuses(engine, "insertText", OUTSIDE, () -> engine.insertText(position));
            Checks.same("the buffer is empty", engine.typeText('y'), 1);
        }
        RegexTracer full = Engines.with(FORTY);
        full.typeText('x');
        Engines.refuses(full, "insertText", OUTSIDE, () -> full.insertText(41));
        RegexTracer empty = new RegexTracer();
        Engines.refuses(empty, "insertText of nothing", OUTSIDE, () -> empty.insertText(1));
    }

    private static void insertTooMuch() {
        RegexTracer engine = Engines.with(Engines.repeated("x", 38));
        Engines.typeText(engine, "abc");
        Engines.refuses(engine, "insertText", STATE, () -> engine.insertText(20));
        Checks.same("the buffer is empty", engine.typeText('a'), 1);
        engine.typeText('b');
        Checks.same("insertText", engine.insertText(38), 40);
        Checks.same("insertText of nothing", engine.insertText(40), 40);
        engine.typeText('c');
        Engines.refuses(engine, "insertText", STATE, () -> engine.insertText(0));
        Checks.same("text", Engines.textOf(engine), Engines.repeated("x", 38) + "ab");
    }

    private static void deleteText() {
        RegexTracer engine = Engines.with("abcdef");
        Checks.same("deleteText", engine.deleteText(1, 3), 4);
        Checks.same("text", Engines.textOf(engine), "adef");
        Checks.same("deleteText", engine.deleteText(2, 2), 4);
        Checks.same("deleteText", engine.deleteText(4, 4), 4);
        Checks.same("undoCount", engine.undoCount(), 4);
        Checks.same("deleteText", engine.deleteText(3, 4), 3);
        Checks.same("text", Engines.textOf(engine), "ade");
        Checks.same("deleteText", engine.deleteText(0, 3), 0);
        Checks.same("deleteText", engine.deleteText(0, 0), 0);
        Checks.same("text", Engines.textOf(engine), "");
    }

    private static void deleteOutside() {
        RegexTracer engine = Engines.with("abc");
        int[][] wrong = {{-1, 2}, {2, 1}, {0, 4}, {4, 4}, {3, 2}, {-2, -1}, {1, Integer.MIN_VALUE},
            {Integer.MIN_VALUE, 0}, {0, Integer.MAX_VALUE}, {Integer.MAX_VALUE, Integer.MAX_VALUE}};
        for (int[] span : wrong) {
            Engines.refuses(engine, "deleteText", OUTSIDE, () -> engine.deleteText(span[0], span[1]));
        }
    }

    private static void replaceMatches() {
        replaced("x", "abcab", "ab", '-', 2, "-c-");
        replaced("y", "abc", "x", '-', 0, "abc");
        replaced("z", "abc", "", '-', 4, "-a-b-c-");
        replaced("x", "aab", "a*", '_', 3, "__b_");
        replaced("x", "baa", "a*", '_', 3, "_b__");
        replaced("x", "", "", ' ', 1, " ");
        replaced("x", "", "a", ' ', 0, "");
        replaced("x", "aaaa", "aa", '~', 2, "~~");
        replaced("x", "a1b22", "[0 123]+", '#', 2, "a#b#");
    }

    private static void replaced(String before, String text, String pattern, char character, int count, String due) {
        RegexTracer engine = Engines.with(before, pattern);
        Engines.text(engine, text);
        Checks.same("replaceMatches", engine.replaceMatches(0, character), count);
        Checks.same("text", Engines.textOf(engine), due);
        Checks.same("undoCount", engine.undoCount(), 4);
        engine.undo();
        Checks.same("text", Engines.textOf(engine), text);
    }

    private static void replaceRefused() {
        RegexTracer engine = Engines.with(FORTY, "x", "");
        engine.typeText('q');
        engine.writeMarked(0);
        Engines.refuses(engine, "replaceMatches", OUTSIDE, () -> engine.replaceMatches(2, (char) 31));
        Engines.refuses(engine, "replaceMatches", OUTSIDE, () -> engine.replaceMatches(-1, 'a'));
        int[] wrong = {0, 31, 127, 0xffff, 256 + 'a'};
        for (int code : wrong) {
            Engines.refuses(engine, "replaceMatches", ARGUMENT, () -> engine.replaceMatches(0, (char) code));
            Engines.refuses(engine, "replaceMatches", ARGUMENT, () -> engine.replaceMatches(1, (char) code));
        }
        Engines.refuses(engine, "replaceMatches", STATE, () -> engine.replaceMatches(1, 'a'));
        Checks.same("the text buffer", engine.typeText('r'), 2);
    }

    private static void replaceToLimit() {
        RegexTracer engine = Engines.with(Engines.repeated("a", 20), "", "a*");
        Engines.refuses(engine, "replaceMatches", STATE, () -> engine.replaceMatches(0, 'b'));
        engine.deleteText(0, 1);
        Checks.same("replaceMatches", engine.replaceMatches(0, ' '), 20);
        Checks.same("text", Engines.textOf(engine), Engines.repeated(" a", 19) + " ");
        Engines.text(engine, "b" + Engines.repeated("a", 19));
        engine.removePattern(1);
        Engines.pattern(engine, "b|");
        Checks.same("replaceMatches", engine.replaceMatches(1, '~'), 21);
        Checks.same("text of 40", Engines.textOf(engine), "~" + Engines.repeated("~a", 19) + "~");
        Engines.text(engine, FORTY);
        Engines.refuses(engine, "replaceMatches", STATE, () -> engine.replaceMatches(1, 'b'));
    }

    private static void textLength() {
        RegexTracer engine = new RegexTracer();
        Checks.same("textLength", engine.textLength(), 0);
        Engines.text(engine, "abcd");
        Checks.same("textLength", engine.textLength(), 4);
        engine.deleteText(0, 3);
        Checks.same("textLength", engine.textLength(), 1);
        Engines.text(engine, FORTY);
        Checks.same("textLength", engine.textLength(), 40);
    }

    private static void textCharacter() {
        RegexTracer engine = Engines.with("a ~Z");
        Checks.same("textCharacter", engine.textCharacter(0), 'a');
        Checks.same("textCharacter", engine.textCharacter(1), ' ');
        Checks.same("textCharacter", engine.textCharacter(2), '~');
        Checks.same("textCharacter", engine.textCharacter(3), 'Z');
        int[] wrong = {-1, 4, 40, Integer.MIN_VALUE, Integer.MAX_VALUE};
        for (int index : wrong) {
            Engines.refuses(engine, "textCharacter", OUTSIDE, () -> engine.textCharacter(index));
        }
        engine.setText();
        Engines.refuses(engine, "textCharacter", OUTSIDE, () -> engine.textCharacter(0));
    }
}
