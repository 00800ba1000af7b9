import java.util.NoSuchElementException;

/** Promises 39 to 41. */
public final class LineTests {
    private static final Class<IndexOutOfBoundsException> OUTSIDE = IndexOutOfBoundsException.class;
    private static final Class<NoSuchElementException> MISSING = NoSuchElementException.class;

    public static void main(String[] arguments) {
        Checks.test("promise 39: writeMatch", LineTests::writeMatch);
        Checks.test("promise 39: writeMatch refuses", LineTests::writeMatchRefused);
        Checks.test("promise 40: writeMarked", LineTests::writeMarked);
        Checks.test("promise 40: the longest line", LineTests::longestLine);
        Checks.test("promise 40: no such pattern", LineTests::writeMarkedRefused);
        Checks.test("promise 41: lineCharacter", LineTests::lineCharacter);
        Checks.test("promise 41: the line stays", LineTests::lineStays);
        Checks.end();
    }

    private static void writeMatch() {
        RegexTracer engine = Engines.with("xxabc", "(ab)c(d)?", "", "x");
        Checks.same("line", Engines.matchOf(engine, 0, 0), "2-5;1:2-4;2:");
        Checks.same("line", Engines.matchOf(engine, 0, 2), "2-5;1:2-4;2:");
        Checks.same("line", Engines.matchOf(engine, 1, 5), "5-5");
        Checks.same("line", Engines.matchOf(engine, 2, 1), "1-2");
        RegexTracer wide = Engines.with(Engines.repeated("a", 40), "(((((a)))))", "()()()()()");
        Checks.same("line", Engines.matchOf(wide, 0, 9), "9-10;1:9-10;2:9-10;3:9-10;4:9-10;5:9-10");
        Checks.same("line", Engines.matchOf(wide, 0, 19), "19-20;1:19-20;2:19-20;3:19-20;4:19-20;5:19-20");
        Checks.same("line", Engines.matchOf(wide, 1, 40), "40-40;1:40-40;2:40-40;3:40-40;4:40-40;5:40-40");
    }

    private static void writeMatchRefused() {
        RegexTracer engine = Engines.with("ab", "a", "b");
        engine.writeMarked(0);
        Checks.same("line", Engines.lineOf(engine), "<a>b");
        int[][] wrong = {{-1, 0}, {2, 0}, {0, -1}, {0, 3}, {0, Integer.MIN_VALUE}, {Integer.MAX_VALUE, 0}};
        for (int[] place : wrong) {
            Engines.refuses(engine, "writeMatch", OUTSIDE, () -> engine.writeMatch(place[0], place[1]));
        }
        Engines.refuses(engine, "writeMatch", MISSING, () -> engine.writeMatch(0, 1));
        Engines.refuses(engine, "writeMatch", MISSING, () -> engine.writeMatch(1, 2));
    }

    private static void writeMarked() {
        marked("a|ab|ab", "xabyab", "x<a>by<a>b");
        marked("ab?", "xabya", "x<ab>y<a>");
        marked("", "ab", "<>a<>b<>");
        marked("a*", "aab", "<aa><>b<>");
        marked("x", "ab", "ab");
        marked("x", "", "");
        marked("", "", "<>");
        marked(".*", "a<b>", "<a<b>><>");
    }

    private static void marked(String pattern, String text, String due) {
        RegexTracer engine = Engines.with(text, pattern);
        Checks.same("writeMarked", engine.writeMarked(0), due.length());
        Checks.same("line of " + pattern + " on " + text, Engines.lineOf(engine), due);
        Checks.same("text", Engines.textOf(engine), text);
        Checks.same("undoCount", engine.undoCount(), 2);
    }

    private static void longestLine() {
        RegexTracer engine = Engines.with(Engines.repeated("ab", 20), "", "a|");
        Checks.same("writeMarked", engine.writeMarked(0), 122);
        Checks.same("line", Engines.lineOf(engine), Engines.repeated("<>a<>b", 20) + "<>");
        Checks.same("writeMarked", engine.writeMarked(1), 122);
        Checks.same("line", Engines.lineOf(engine), Engines.repeated("<a><>b", 20) + "<>");
    }

    private static void writeMarkedRefused() {
        RegexTracer engine = Engines.with("ab", "a");
        engine.writeMatch(0, 0);
        int[] wrong = {-1, 1, 4, Integer.MIN_VALUE, Integer.MAX_VALUE};
        for (int pattern : wrong) {
            Engines.refuses(engine, "writeMarked", OUTSIDE, () -> engine.writeMarked(pattern));
        }
    }

    private static void lineCharacter() {
        RegexTracer engine = Engines.with("ab", "a");
        Engines.refuses(engine, "lineCharacter", OUTSIDE, () -> engine.lineCharacter(0));
        Checks.same("writeMatch", engine.writeMatch(0, 0), 3);
        Checks.same("lineCharacter", engine.lineCharacter(0), '0');
        Checks.same("lineCharacter", engine.lineCharacter(1), '-');
        Checks.same("lineCharacter", engine.lineCharacter(2), '1');
        int[] wrong = {-1, 3, 122, Integer.MIN_VALUE, Integer.MAX_VALUE};
        for (int index : wrong) {
            Engines.refuses(engine, "lineCharacter", OUTSIDE, () -> engine.lineCharacter(index));
        }
        Engines.text(engine, "");
        Checks.same("writeMarked", engine.writeMarked(0), 0);
        Engines.refuses(engine, "lineCharacter", OUTSIDE, () -> engine.lineCharacter(0));
    }

    private static void lineStays() {
        RegexTracer engine = Engines.with("ab", "a");
        engine.saveSnapshot();
        engine.writeMarked(0);
        Engines.text(engine, "xyz");
        engine.undo();
        Checks.same("line", Engines.lineOf(engine), "<a>b");
        engine.removePattern(0);
        engine.restoreSnapshot();
        Checks.same("line", Engines.lineOf(engine), "<a>b");
        engine.matchCount(0);
        engine.find(0, 0);
        engine.isConsistent();
        Checks.same("line", Engines.lineOf(engine), "<a>b");
    }
}
