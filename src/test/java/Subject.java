import java.util.ArrayList;
import java.util.List;

/** An engine whose calls are kept, so that a second one can be brought to the same state. */
final class Subject {
    /** What a later call answers is free. */
    private static final int CALL_LIMIT = 512;

    private record Call(String name, int[] arguments) {
    }

    private final RegexTracer engine = new RegexTracer();
    private final List<Call> calls = new ArrayList<>();

    String call(String name, int... arguments) {
        calls.add(new Call(name, arguments));
        if (calls.size() > CALL_LIMIT) {
            throw new IllegalStateException("the test makes more than 512 calls");
        }
        return Calls.call(engine, name, argument(arguments, 0), argument(arguments, 1), argument(arguments, 2));
    }

    private static int argument(int[] arguments, int index) {
        return index < arguments.length ? arguments[index] : 0;
    }

    int callCount() {
        return calls.size();
    }

    /** A new one that has had the first calls of this one. */
    Subject afterFirst(int count) {
        Subject other = new Subject();
        for (Call call : calls.subList(0, count)) {
            other.call(call.name, call.arguments);
        }
        return other;
    }

    void type(String name, String characters) {
        for (int index = 0; index < characters.length(); index++) {
            call(name, characters.charAt(index));
        }
    }

    String patterns() {
        StringBuilder text = new StringBuilder();
        int count = number("patternCount");
        for (int pattern = 0; pattern < count; pattern++) {
            text.append('/');
            int length = number("patternLength", pattern);
            for (int index = 0; index < length; index++) {
                text.append((char) number("patternCharacter", pattern, index));
            }
        }
        return text.toString();
    }

    String text() {
        StringBuilder text = new StringBuilder();
        int length = number("textLength");
        for (int index = 0; index < length; index++) {
            text.append((char) number("textCharacter", index));
        }
        return text.toString();
    }

    String line() {
        StringBuilder text = new StringBuilder();
        String answer = call("lineCharacter", 0);
        while (!answer.startsWith("throws.")) {
            text.append((char) Integer.parseInt(answer));
            answer = call("lineCharacter", text.length());
        }
        return text.toString();
    }

    String fault() {
        return call("faultPosition") + "," + call("faultKind") + "," + call("faultDepth");
    }

    private int number(String name, int... arguments) {
        return Integer.parseInt(call(name, arguments));
    }
}
