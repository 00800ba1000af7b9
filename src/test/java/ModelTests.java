import java.util.Random;
import java.util.regex.Matcher;

/** Long runs of calls against the model, and many patterns against two other ways to match. */
public final class ModelTests {
    private static final int[] EDGES = {-1, 5, 30, 31, 39, 40, 41, 42, 122, 123, 127, 255, 4096, 65535,
        Integer.MIN_VALUE, Integer.MAX_VALUE};
    private static final String[] TYPING = {"typePattern", "typeText"};

    /** What a later call answers is free. */
    private static final int CALL_LIMIT = 512;

    public static void main(String[] arguments) {
        Checks.test("promises 1 to 45: runs of mixed calls", () -> runs(1, 400, 12, 7));
        Checks.test("promises 1 to 45: runs on long texts", () -> runs(2, 400, 30, 40));
        Checks.test("promises 1 to 45: any arguments", ModelTests::anyArguments);
        Checks.test("promises 3, 11 to 13: all short patterns", ModelTests::shortPatterns);
        Checks.test("promises 3, 11 to 13: long patterns", ModelTests::longPatterns);
        Checks.test("promises 21 to 29, 38: many patterns", ModelTests::manyPatterns);
        Checks.end();
    }

    private static void runs(long seed, int count, int patternLength, int textLength) {
        Random random = new Random(seed);
        for (int run = 0; run < count; run++) {
            Run one = new Run(random);
            while (one.goesOn()) {
                one.next(patternLength, textLength);
            }
            if (!one.same) {
                Checks.wrong("run " + run + ":" + one.told);
                return;
            }
        }
    }

    private static final class Run {
        final Random random;
        final RegexTracer engine = new RegexTracer();
        final Model model = new Model();
        final StringBuilder told = new StringBuilder();
        int calls = 0;
        boolean same = true;

        Run(Random random) {
            this.random = random;
        }

        boolean goesOn() {
            return same && calls < CALL_LIMIT;
        }

        void next(int patternLength, int textLength) {
            int choice = random.nextInt(12);
            if (choice == 0) {
                type("typePattern", Patterns.random(random, random.nextInt(patternLength) + 1));
                call("compile", 0, 0, 0);
            } else if (choice == 1) {
                type("typeText", Patterns.text(random, random.nextInt(textLength + 1)));
                call(random.nextInt(3) == 0 ? "insertText" : "setText", place(), 0, 0);
            } else {
                String name = Calls.NAMES[random.nextInt(Calls.NAMES.length)];
                int pattern = random.nextInt(10) == 0 ? place() : random.nextInt(Math.max(1, model.patterns().size()));
                callSome(name, pattern);
            }
        }

        private void type(String name, String characters) {
            for (int index = 0; index < characters.length(); index++) {
                call(name, characters.charAt(index), 0, 0);
            }
        }

        private void callSome(String name, int pattern) {
            switch (name) {
                case "typePattern", "typeText" -> call(name, "ab(|)*?+[]^. ".charAt(random.nextInt(13)), 0, 0);
                case "insertText", "textCharacter", "patternByMatches" -> call(name, place(), 0, 0);
                case "lineCharacter" -> call(name, random.nextInt(model.lineLength() + 2) - 1, 0, 0);
                case "deleteText" -> call(name, place(), place(), 0);
                case "replaceMatches" -> call(name, pattern, random.nextInt(8) == 0 ? 127 : 'a' + random.nextInt(3), 0);
                case "removePattern" -> call(name, random.nextInt(3) == 0 ? pattern : 9, 0, 0);
                default -> call(name, pattern, place(), random.nextInt(8) == 0 ? place() : 1 + random.nextInt(3));
            }
        }

        private int place() {
            return random.nextInt(12) == 0
                    ? EDGES[random.nextInt(EDGES.length)]
                    : random.nextInt(model.text().length() + 1);
        }

        private void call(String name, int a, int b, int c) {
            if (!goesOn()) {
                return;
            }
            String due;
            try {
                due = model.call(name, a, b, c);
            } catch (Model.TooMany tooMany) {
                return;
            }
            calls++;
            String got = Calls.call(engine, name, a, b, c);
            told.append("\n  ").append(name).append(' ').append(a).append(' ').append(b).append(' ').append(c);
            told.append(" answered ").append(got);
            if (!got.equals(due)) {
                told.append(", due is ").append(due);
                same = false;
            }
        }
    }

    /** No call may throw by itself: only the exceptions of the document, by their very classes, may come. */
    private static void anyArguments() {
        Random random = new Random(3);
        for (int run = 0; run < 300; run++) {
            Run one = new Run(random);
            while (one.goesOn()) {
                String name = random.nextInt(2) == 0
                        ? TYPING[random.nextInt(2)]
                        : Calls.NAMES[random.nextInt(Calls.NAMES.length)];
                one.call(name, any(random, name), any(random, ""), any(random, ""));
            }
            if (!one.same) {
                Checks.wrong("run " + run + ":" + one.told);
                return;
            }
        }
    }

    private static int any(Random random, String name) {
        if (name.startsWith("type") && random.nextInt(10) > 0) {
            return "ab(a|)*?+[a]^. ".charAt(random.nextInt(15));
        }
        int choice = random.nextInt(4);
        if (choice == 0) {
            return EDGES[random.nextInt(EDGES.length)] & (name.startsWith("type") ? 0xffff : -1);
        }
        return choice == 1 ? random.nextInt(42) : random.nextInt(5) - (name.startsWith("type") ? 0 : 1);
    }

    private static void shortPatterns() {
        String signs = "a(|)*?[^]";
        RegexTracer engine = new RegexTracer();
        for (int length = 0; length <= 5; length++) {
            int count = (int) Math.round(Math.pow(signs.length(), length));
            for (int number = 0; number < count; number++) {
                StringBuilder pattern = new StringBuilder();
                for (int index = 0, left = number; index < length; index++, left /= signs.length()) {
                    pattern.append(signs.charAt(left % signs.length()));
                }
                if (number % 50 == 0) {
                    engine = new RegexTracer();
                }
                compare(engine, pattern.toString());
            }
        }
    }

    private static void longPatterns() {
        Random random = new Random(4);
        for (int run = 0; run < 30000; run++) {
            StringBuilder pattern = new StringBuilder(Patterns.random(random, 30));
            int spoilt = random.nextInt(4);
            for (int times = 0; times < spoilt && pattern.length() > 0; times++) {
                int index = random.nextInt(pattern.length());
                pattern.setCharAt(index, "a(|)*?+[^].B".charAt(random.nextInt(12)));
            }
            compare(new RegexTracer(), pattern.toString());
        }
    }

    private static void compare(RegexTracer engine, String pattern) {
        int[] due = Model.faultOf(pattern);
        Engines.typePattern(engine, pattern);
        String got = Calls.call(engine, "compile", 0, 0, 0);
        if (due == null) {
            Checks.same("compile of " + pattern, got, "0");
            engine.removePattern(0);
        } else {
            Checks.same("compile of " + pattern, got, "throws.IllegalArgumentException");
            Checks.same("fault of " + pattern, Engines.faultOf(engine), due[0] + "," + due[1] + "," + due[2]);
        }
    }

    private static void manyPatterns() {
        Random random = new Random(5);
        for (int run = 0; run < 20000; run++) {
            String pattern = Patterns.random(random, 4 + random.nextInt(14));
            String text = Patterns.text(random, random.nextInt(9));
            if (Model.isValid(pattern)) {
                compareMatches(pattern, text);
            }
        }
    }

    /** java.util.regex prefers the same ways, but keeps some groups otherwise, so only the match is compared. */
    private static void compareMatches(String pattern, String text) {
        RegexTracer engine = Engines.with(text, pattern);
        Matcher matcher = java.util.regex.Pattern.compile(pattern).matcher(text);
        String call = pattern + " on " + text;
        for (int from = 0; from <= text.length(); from++) {
            String due = matcher.find(from) ? matcher.start() + "-" + matcher.end() : "none";
            Checks.same("find of " + call, spanOf(engine, "find", "findEnd", from), due);
            Checks.same("findByThreads of " + call, spanOf(engine, "findByThreads", "findEndByThreads", from), due);
        }
        boolean whole = matcher.matches();
        Checks.same("matchesAll of " + call, String.valueOf(engine.matchesAll(0)), String.valueOf(whole));
        Checks.same("by threads", String.valueOf(engine.matchesAllByThreads(0)), String.valueOf(whole));
        Checks.yes("isConsistent of " + call, engine.isConsistent());
    }

    private static String spanOf(RegexTracer engine, String start, String end, int from) {
        String first = Calls.call(engine, start, 0, from, 0);
        String last = Calls.call(engine, end, 0, from, 0);
        return first.equals("throws.NoSuchElementException") && last.equals(first) ? "none" : first + "-" + last;
    }
}
