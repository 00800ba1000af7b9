import java.io.IOException;
import java.lang.management.ManagementFactory;
import java.lang.reflect.Constructor;
import java.lang.reflect.Executable;
import java.lang.reflect.Field;
import java.lang.reflect.Method;
import java.lang.reflect.Modifier;
import java.nio.file.Files;
import java.nio.file.Path;
import java.util.List;
import java.util.Set;
import java.util.TreeSet;
import java.util.regex.Matcher;
import java.util.regex.Pattern;

/** The public face of the document, some rules of LANGUAGE.md that can be seen from outside, and the room. */
public final class RuleTests {
    private static final Path DOCUMENT = Path.of("../shared/DOC.md");
    private static final Path SOURCE = Path.of("src/main/java/RegexTracer.java");
    private static final int LONGEST_METHOD = 60;

    public static void main(String[] arguments) {
        Checks.test("the public face is the one of the document", RuleTests::face);
        Checks.test("the public face stands in the source as in the document", RuleTests::faceAsWritten);
        Checks.test("the calls stand under the headings of the document", RuleTests::headings);
        Checks.test("rule 1: nothing else can be seen", RuleTests::hiddenMembers);
        Checks.test("rule 1: private methods have names of their own", RuleTests::privateNames);
        Checks.test("rules 3 to 6: what the source does not use", RuleTests::forbiddenWords);
        Checks.test("rule 5: static fields are constants", RuleTests::staticFields);
        Checks.test("rule 4: the source has plain signs alone", RuleTests::plainSigns);
        Checks.test("rule 11: short methods, few classes, few fields, few parameters", RuleTests::sizes);
        Checks.test("room: searches make no objects", RuleTests::searchesMakeNothing);
        Checks.test("room: the dearest run", RuleTests::dearestRun);
        Checks.end();
    }

    private static String read(Path path) {
        try {
            return Files.readString(path);
        } catch (IOException unreadable) {
            throw new IllegalStateException(unreadable);
        }
    }

    private static void face() {
        Set<String> got = new TreeSet<>();
        for (Constructor<?> constructor : RegexTracer.class.getConstructors()) {
            got.add("RegexTracer" + signatureOf(constructor));
        }
        for (Method method : RegexTracer.class.getDeclaredMethods()) {
            if (Modifier.isPublic(method.getModifiers())) {
                got.add(method.getReturnType().getSimpleName() + " " + method.getName() + signatureOf(method));
            }
        }
        Checks.same("the members of the face", String.join("\n", got), String.join("\n", faceOfDocument()));
        Checks.same("the number of members", got.size(), 45);
    }

    private static Set<String> faceOfDocument() {
        Set<String> due = new TreeSet<>();
        Matcher line = Pattern.compile("(?m)^    public ([^{};(]*)\\(([^)]*)\\)([^;]*);").matcher(read(DOCUMENT));
        while (line.find()) {
            due.add(line.group(1) + "(" + line.group(2).replaceAll("(char|int) \\w+", "$1") + ")" + line.group(3));
        }
        return due;
    }

    /** With the names of the arguments, which a compiled class does not tell. */
    private static void faceAsWritten() {
        String source = read(SOURCE).replaceAll("\\s+", " ");
        Matcher line = Pattern.compile("(?m)^    (public .*);$").matcher(read(DOCUMENT));
        int count = 0;
        while (line.find()) {
            count++;
            Checks.yes("the source has " + line.group(1), source.contains(" " + line.group(1) + " {"));
        }
        Checks.same("the number of members", count, 45);
        Checks.yes("the class", source.contains(" public final class RegexTracer { "));
    }

    private static void headings() {
        String source = read(SOURCE);
        Pattern heading = Pattern.compile("Ahead of the calls (.*) the interface says: (---- .*)\\.");
        Matcher sentence = heading.matcher(read(DOCUMENT));
        int from = 0;
        int count = 0;
        while (sentence.find()) {
            from = source.indexOf("    // " + sentence.group(2) + "\n", from);
            Checks.yes("there is " + sentence.group(2), from >= 0);
            for (String call : sentence.group(1).replace("`", "").split(", ")) {
                from = source.indexOf(" " + call + "(", Math.max(0, from));
                Checks.yes(call + " stands under " + sentence.group(2), from >= 0);
                count++;
            }
        }
        Checks.same("the number of calls", count, 44);
    }

    private static String signatureOf(Executable member) {
        StringBuilder text = new StringBuilder("(");
        for (Class<?> type : member.getParameterTypes()) {
            text.append(text.length() > 1 ? ", " : "").append(type.getSimpleName());
        }
        text.append(')');
        String before = " throws ";
        for (Class<?> type : member.getExceptionTypes()) {
            text.append(before).append(type.getSimpleName());
            before = ", ";
        }
        return text.toString();
    }

    private static void hiddenMembers() {
        for (Field field : RegexTracer.class.getDeclaredFields()) {
            Checks.yes(field.getName() + " is private", Modifier.isPrivate(field.getModifiers()));
        }
        for (Method method : RegexTracer.class.getDeclaredMethods()) {
            int modifiers = method.getModifiers();
            Checks.yes(method.getName(), Modifier.isPrivate(modifiers) || Modifier.isPublic(modifiers));
        }
        for (Class<?> inner : RegexTracer.class.getDeclaredClasses()) {
            int modifiers = inner.getModifiers();
            Checks.yes(inner.getName(), Modifier.isPrivate(modifiers) && Modifier.isStatic(modifiers));
        }
        Checks.yes("the class is final", Modifier.isFinal(RegexTracer.class.getModifiers()));
        Checks.yes("it extends nothing", RegexTracer.class.getSuperclass() == Object.class);
        Checks.same("the interfaces that it implements", RegexTracer.class.getInterfaces().length, 0);
    }

    private static void privateNames() {
        Set<String> names = new TreeSet<>();
        for (Method method : RegexTracer.class.getMethods()) {
            names.add(method.getName());
        }
        for (Method method : RegexTracer.class.getDeclaredMethods()) {
            if (!Modifier.isPublic(method.getModifiers())) {
                Checks.no(method.getName() + " is a public name", names.contains(method.getName()));
            }
        }
        for (Class<?> inner : RegexTracer.class.getDeclaredClasses()) {
            for (Method method : inner.getDeclaredMethods()) {
                Checks.no(method.getName() + " is a public name", names.contains(method.getName()));
            }
        }
    }

    private static void forbiddenWords() {
        String source = read(SOURCE);
        List<String> words = List.of("->", "::", "try ", "catch", "finally", "synchronized", "assert", "System.",
            "Thread.", "Random", "String", "package ", "Object", "@", "var ", "Exact", "\t");
        for (String word : words) {
            Checks.no("the source uses " + word, source.contains(word));
        }
        Matcher imports = Pattern.compile("(?m)^import (.*);").matcher(source);
        while (imports.find()) {
            Checks.same("import", imports.group(1), "java.util.NoSuchElementException");
        }
    }

    private static void plainSigns() {
        for (char sign : read(SOURCE).toCharArray()) {
            Checks.yes("the sign " + (int) sign, sign == '\n' || (sign >= ' ' && sign < 127));
        }
    }

    private static void staticFields() {
        for (Class<?> inner : RegexTracer.class.getDeclaredClasses()) {
            checkStaticFields(inner);
        }
        checkStaticFields(RegexTracer.class);
    }

    private static void checkStaticFields(Class<?> owner) {
        for (Field field : owner.getDeclaredFields()) {
            if (Modifier.isStatic(field.getModifiers())) {
                Checks.yes(field.getName() + " is final", Modifier.isFinal(field.getModifiers()));
                Checks.yes(field.getName() + " is a number", field.getType() == int.class);
            }
        }
    }

    private static void sizes() {
        Checks.yes("few classes", RegexTracer.class.getDeclaredClasses().length < 12);
        checkMembers(RegexTracer.class);
        for (Class<?> inner : RegexTracer.class.getDeclaredClasses()) {
            checkMembers(inner);
        }
        int begun = 0;
        String[] lines = read(SOURCE).split("\n");
        for (int number = 0; number < lines.length; number++) {
            if (lines[number].matches("(    |        )[^ /*].*\\{")) {
                begun = number;
            } else if (lines[number].matches("(    |        )\\}")) {
                Checks.yes("the method up to line " + (number + 1) + " is short", number - begun < LONGEST_METHOD);
                begun = number;
            }
        }
    }

    private static void checkMembers(Class<?> owner) {
        int count = 0;
        for (Field field : owner.getDeclaredFields()) {
            count += Modifier.isStatic(field.getModifiers()) ? 0 : 1;
        }
        Checks.yes(owner.getName() + " has at most 20 fields", count <= 20);
        for (Method method : owner.getDeclaredMethods()) {
            Checks.yes(method.getName() + " has at most 7 parameters", method.getParameterCount() <= 7);
        }
    }

    private static long allocated() {
        com.sun.management.ThreadMXBean bean =
                (com.sun.management.ThreadMXBean) ManagementFactory.getThreadMXBean();
        return bean.getCurrentThreadAllocatedBytes();
    }

    private static void searchesMakeNothing() {
        RegexTracer engine = Engines.with(Engines.repeated("ab", 20), "(a|b)+c", "((a?b)+|a)*", "", "[^a]*.");
        allocated();
        long before = allocated();
        for (int turn = 0; turn < 100; turn++) {
            engine.isConsistent();
            engine.patternByMatches(turn % 4);
            engine.writeMarked(2);
            engine.writeMatch(1, 0);
        }
        Checks.yes("little room for 400 calls", allocated() - before < 20000);
    }

    /** Most fields and elements have 4 bytes, so the run keeps some 250,000 of 7.3 million at the most. */
    private static void dearestRun() {
        allocated();
        long before = allocated();
        RegexTracer engine = new RegexTracer();
        engine.compile();
        engine.saveSnapshot();
        for (int turn = 0; turn < 255; turn++) {
            engine.compile();
            engine.removePattern(1);
        }
        Checks.yes("room of a run that compiles", allocated() - before < 1000000);
    }
}
