/** An object is used for at most 512 calls: each call of the face is made as the 512th one of a busy object. */
public final class LastCallTests {
    private static final int CALLS = 512;
    private static final int FIRST_PROMISE = 2;

    private final RegexTracer engine = new RegexTracer();
    private final Model model = new Model();
    private int calls = 0;

    public static void main(String[] arguments) {
        for (int index = 0; index < Calls.NAMES.length; index++) {
            String name = Calls.NAMES[index];
            Checks.test("promise " + (index + FIRST_PROMISE) + ": " + name + " as the 512th call",
                    () -> new LastCallTests().lastCall(name));
        }
        Checks.end();
    }

    private void lastCall(String name) {
        type("typePattern", "(a)");
        call("compile");
        type("typePattern", "b*");
        call("compile");
        type("typeText", "ab");
        call("setText");
        type("typePattern", "(b");
        call("compile");
        call("saveSnapshot");
        while (calls < CALLS - 40) {
            busyTurn();
        }
        while (calls < CALLS - 1) {
            call("undoCount");
        }
        String answer = switch (name) {
            case "typePattern", "typeText" -> call(name, 'c');
            case "replaceMatches" -> call(name, 1, 'c');
            default -> call(name, 0, 0, 1);
        };
        Checks.no(name + " threw " + answer, answer.startsWith("throws."));
        Checks.same("the number of calls", calls, CALLS);
    }

    /** The patterns and the text are the same afterwards. */
    private void busyTurn() {
        type("typeText", "cd");
        call("insertText", 1);
        call("deleteText", 1, 3);
        type("typePattern", "[^a]?");
        call("compile");
        call("replaceMatches", 2, 'x');
        call("undo");
        call("removePattern", 2);
        call("writeMatch", 0, 0);
        call("isConsistent");
        call("restoreSnapshot");
        type("typeText", "ab");
        call("setText");
        call("deleteText", 5, 2);
        call("writeMarked", 1);
    }

    private void type(String name, String characters) {
        for (char character : characters.toCharArray()) {
            call(name, character);
        }
    }

    private String call(String name, int... arguments) {
        int first = arguments.length > 0 ? arguments[0] : 0;
        int second = arguments.length > 1 ? arguments[1] : 0;
        int third = arguments.length > 2 ? arguments[2] : 0;
        calls++;
        String answer = Calls.call(engine, name, first, second, third);
        Checks.same("call " + calls + ", " + name, answer, model.call(name, first, second, third));
        return answer;
    }
}
