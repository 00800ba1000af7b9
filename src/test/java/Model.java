import java.util.ArrayDeque;
import java.util.ArrayList;
import java.util.Arrays;
import java.util.List;

/**
 * The document in its plainest form, written apart from the engine: a tree of each pattern, all
 * ways tried by recursion, whole copies for undo. Each call answers as a text, an exception too.
 */
final class Model {
    /** Too many ways for this plain form; the call changes nothing. */
    static final class TooMany extends RuntimeException {
        private static final long serialVersionUID = 1L;
    }

    static final class Invalid extends Exception {
        private static final long serialVersionUID = 1L;
    }

    private interface Rest {
        boolean go(int position);
    }

    private static final int STEPS = 20000;
    private static final String OUTSIDE = "throws.IndexOutOfBoundsException";
    private static final String MISSING = "throws.NoSuchElementException";
    private static final String STATE = "throws.IllegalStateException";
    private static final String ARGUMENT = "throws.IllegalArgumentException";
    private static final String ARITHMETIC = "throws.ArithmeticException";

    /** kind: c character, . any, [ listed, ^ not listed, ( group, & items of a branch, | branches, * + ? repeats. */
    static final class Tree {
        final char kind;
        final String listed;
        final int group;
        final List<Tree> parts = new ArrayList<>();

        Tree(char kind, String listed, int group, Tree... parts) {
            this.kind = kind;
            this.listed = listed;
            this.group = group;
            this.parts.addAll(Arrays.asList(parts));
        }

        int shortest() {
            int sum = 0;
            int least = Integer.MAX_VALUE;
            for (Tree part : parts) {
                sum += part.shortest();
                least = Math.min(least, part.shortest());
            }
            return switch (kind) {
                case '*', '?' -> 0;
                case '+', '(', '&' -> sum;
                case '|' -> least;
                default -> 1;
            };
        }

        /** -1 if there is no longest one. */
        int longest() {
            int sum = 0;
            int most = 0;
            for (Tree part : parts) {
                if (part.longest() < 0) {
                    return -1;
                }
                sum += part.longest();
                most = Math.max(most, part.longest());
            }
            return switch (kind) {
                case '*', '+' -> -1;
                case '?', '(', '&' -> sum;
                case '|' -> most;
                default -> 1;
            };
        }
    }

    /** Recursive descent; throws Invalid without a place. */
    static final class Parser {
        final String source;
        int index = 0;
        int groups = 0;

        Parser(String source) {
            this.source = source;
        }

        static Tree parse(String source) throws Invalid {
            Parser parser = new Parser(source);
            Tree tree = parser.pattern();
            if (parser.index < source.length() || parser.groups > 5) {
                throw new Invalid();
            }
            return tree;
        }

        private boolean sees(String signs) {
            return index < source.length() && signs.indexOf(source.charAt(index)) >= 0;
        }

        private boolean seesCharacter() {
            return sees("abcdefghijklmnopqrstuvwxyz0123456789 ");
        }

        private Tree pattern() throws Invalid {
            Tree tree = new Tree('|', "", 0, branch());
            while (sees("|")) {
                index++;
                tree.parts.add(branch());
            }
            return tree;
        }

        private Tree branch() throws Invalid {
            Tree tree = new Tree('&', "", 0);
            while (seesCharacter() || sees(".([")) {
                Tree atom = atom();
                if (sees("*+?")) {
                    char sign = source.charAt(index++);
                    if (sign != '?' && atom.shortest() == 0) {
                        throw new Invalid();
                    }
                    atom = new Tree(sign, "", 0, atom);
                }
                tree.parts.add(atom);
            }
            return tree;
        }

        private Tree atom() throws Invalid {
            char sign = source.charAt(index++);
            if (sign == '.') {
                return new Tree('.', "", 0);
            }
            if (sign == '(') {
                int group = ++groups;
                Tree inner = pattern();
                expect(')');
                return new Tree('(', "", group, inner);
            }
            if (sign == '[') {
                boolean negated = sees("^");
                index += negated ? 1 : 0;
                StringBuilder listed = new StringBuilder();
                while (seesCharacter()) {
                    listed.append(source.charAt(index++));
                }
                expect(']');
                if (listed.length() == 0) {
                    throw new Invalid();
                }
                return new Tree(negated ? '^' : '[', listed.toString(), 0);
            }
            return new Tree('c', String.valueOf(sign), 0);
        }

        private void expect(char sign) throws Invalid {
            if (!sees(String.valueOf(sign))) {
                throw new Invalid();
            }
            index++;
        }
    }

    static boolean isValid(String pattern) {
        try {
            Parser.parse(pattern);
            return true;
        } catch (Invalid invalid) {
            return false;
        }
    }

    /** Whether some valid pattern begins so: what is open is closed in the shortest way. */
    static boolean canContinue(String prefix) {
        for (String ending : new String[] {"", "]", "a]"}) {
            for (int closing = 0; closing <= 5; closing++) {
                if (isValid(prefix + ending + ")".repeat(closing))) {
                    return true;
                }
            }
        }
        return false;
    }

    /** Position, kind and depth, or null if the pattern is valid. */
    static int[] faultOf(String pattern) {
        if (isValid(pattern)) {
            return null;
        }
        int position = 0;
        while (position < pattern.length() && canContinue(pattern.substring(0, position + 1))) {
            position++;
        }
        int depth = 0;
        for (int index = 0; index < position; index++) {
            depth += pattern.charAt(index) == '(' ? 1 : pattern.charAt(index) == ')' ? -1 : 0;
        }
        int kind = 5;
        if (position < pattern.length()) {
            char sign = pattern.charAt(position);
            kind = "*+?".indexOf(sign) >= 0 ? 1 : sign == ')' ? 2 : sign == '(' ? 3 : 4;
        }
        return new int[] {position, kind, depth};
    }

    // ---- what is kept

    private List<String> patterns = new ArrayList<>();
    private String text = "";
    private String patternBuffer = "";
    private String textBuffer = "";
    private String line = "";
    private int[] fault = null;
    private final ArrayDeque<Object[]> history = new ArrayDeque<>();
    private Object[] snapshot = null;

    // ---- one match: start, end and two positions for each group

    private int steps;

    private boolean ways(Tree tree, int position, int[] groups, Rest rest) {
        if (++steps > STEPS) {
            throw new TooMany();
        }
        switch (tree.kind) {
            case '|':
                for (Tree part : tree.parts) {
                    if (ways(part, position, groups, rest)) {
                        return true;
                    }
                }
                return false;
            case '&':
                return items(tree, 0, position, groups, rest);
            case '(': {
                int start = groups[2 * tree.group];
                int end = groups[2 * tree.group + 1];
                boolean found = ways(tree.parts.get(0), position, groups, after -> {
                    int innerStart = groups[2 * tree.group];
                    int innerEnd = groups[2 * tree.group + 1];
                    groups[2 * tree.group] = position;
                    groups[2 * tree.group + 1] = after;
                    if (rest.go(after)) {
                        return true;
                    }
                    groups[2 * tree.group] = innerStart;
                    groups[2 * tree.group + 1] = innerEnd;
                    return false;
                });
                if (!found) {
                    groups[2 * tree.group] = start;
                    groups[2 * tree.group + 1] = end;
                }
                return found;
            }
            case '?':
                return ways(tree.parts.get(0), position, groups, rest) || rest.go(position);
            case '*':
                return ways(tree.parts.get(0), position, groups, after -> ways(tree, after, groups, rest))
                        || rest.go(position);
            case '+':
                return ways(tree.parts.get(0), position, groups,
                    after -> ways(tree, after, groups, rest) || rest.go(after));
            default:
                return position < text.length() && takes(tree, text.charAt(position)) && rest.go(position + 1);
        }
    }

    private boolean items(Tree tree, int item, int position, int[] groups, Rest rest) {
        if (item == tree.parts.size()) {
            return rest.go(position);
        }
        return ways(tree.parts.get(item), position, groups,
            after -> items(tree, item + 1, after, groups, rest));
    }

    private static boolean takes(Tree tree, char character) {
        boolean listed = tree.listed.indexOf(character) >= 0;
        return tree.kind == '.' || listed == (tree.kind != '^');
    }

    private static Tree treeOf(String pattern) {
        try {
            return Parser.parse(pattern);
        } catch (Invalid invalid) {
            throw new IllegalStateException(invalid);
        }
    }

    private int[] matchAt(String pattern, int start, boolean whole) {
        int[] groups = new int[12];
        Arrays.fill(groups, -1);
        steps = 0;
        boolean found = ways(treeOf(pattern), start, groups, after -> {
            groups[1] = after;
            return !whole || after == text.length();
        });
        groups[0] = start;
        return found ? groups : null;
    }

    private int[] matchFrom(String pattern, int from) {
        for (int start = from; start <= text.length(); start++) {
            int[] match = matchAt(pattern, start, false);
            if (match != null) {
                return match;
            }
        }
        return null;
    }

    private List<int[]> matches(int pattern) {
        List<int[]> list = new ArrayList<>();
        int from = 0;
        while (from <= text.length()) {
            int[] match = matchFrom(patterns.get(pattern), from);
            if (match == null) {
                break;
            }
            list.add(match);
            from = match[1] + (match[1] == match[0] ? 1 : 0);
        }
        return list;
    }

    private int matched(int pattern) {
        return matches(pattern).stream().mapToInt(match -> match[1] - match[0]).sum();
    }

    // ---- changes

    private void change() {
        history.addLast(new Object[] {new ArrayList<>(patterns), text});
        if (history.size() > 8) {
            history.removeFirst();
        }
    }

    @SuppressWarnings("unchecked")
    private void become(Object[] state) {
        patterns = new ArrayList<>((List<String>) state[0]);
        text = (String) state[1];
    }

    private boolean noPattern(int pattern) {
        return pattern < 0 || pattern >= patterns.size();
    }

    private static boolean noCode(int character) {
        return character < 32 || character > 126;
    }

    private static String at(String characters, int index) {
        return index < 0 || index >= characters.length() ? OUTSIDE : "" + (int) characters.charAt(index);
    }

    // ---- the calls

    String call(String name, int a, int b, int c) {
        switch (name) {
            case "typePattern":
                if (patternBuffer.length() == 30) {
                    return STATE;
                }
                patternBuffer += (char) a;
                return "" + patternBuffer.length();
            case "compile":
                return compile();
            case "patternCount":
                return "" + patterns.size();
            case "faultPosition":
                return fault == null ? MISSING : "" + fault[0];
            case "faultKind":
                return fault == null ? MISSING : "" + fault[1];
            case "faultDepth":
                return fault == null ? MISSING : "" + fault[2];
            case "patternByMatches":
                return patternByMatches(a);
            case "isConsistent":
                return "true";
            case "lineCharacter":
                return at(line, a);
            case "typeText":
            case "setText":
            case "insertText":
            case "deleteText":
            case "textLength":
            case "textCharacter":
                return textCall(name, a, b);
            case "undo":
            case "undoCount":
            case "saveSnapshot":
            case "restoreSnapshot":
                return stateCall(name);
            default:
                return noPattern(a) ? OUTSIDE : patternCall(name, a, b, c);
        }
    }

    private String compile() {
        String source = patternBuffer;
        patternBuffer = "";
        if (patterns.size() == 4) {
            return STATE;
        }
        if (!isValid(source)) {
            fault = faultOf(source);
            return ARGUMENT;
        }
        change();
        patterns.add(source);
        return "" + (patterns.size() - 1);
    }

    private String patternByMatches(int rank) {
        List<Integer> order = new ArrayList<>();
        List<Integer> counts = new ArrayList<>();
        for (int pattern = 0; pattern < patterns.size(); pattern++) {
            order.add(pattern);
            counts.add(matches(pattern).size());
        }
        order.sort((left, right) -> counts.get(right) - counts.get(left));
        return rank < 0 || rank >= order.size() ? MISSING : "" + order.get(rank);
    }

    private String textCall(String name, int a, int b) {
        switch (name) {
            case "typeText":
                if (noCode(a)) {
                    return ARGUMENT;
                }
                if (textBuffer.length() == 40) {
                    return STATE;
                }
                textBuffer += (char) a;
                return "" + textBuffer.length();
            case "setText":
                change();
                text = textBuffer;
                textBuffer = "";
                return "" + text.length();
            case "insertText": {
                String inserted = textBuffer;
                textBuffer = "";
                if (a < 0 || a > text.length()) {
                    return OUTSIDE;
                }
                if (text.length() + inserted.length() > 40) {
                    return STATE;
                }
                change();
                text = text.substring(0, a) + inserted + text.substring(a);
                return "" + text.length();
            }
            case "deleteText":
                if (a < 0 || a > b || b > text.length()) {
                    return OUTSIDE;
                }
                change();
                text = text.substring(0, a) + text.substring(b);
                return "" + text.length();
            case "textLength":
                return "" + text.length();
            default:
                return at(text, a);
        }
    }

    private String stateCall(String name) {
        switch (name) {
            case "undo":
                if (history.isEmpty()) {
                    return STATE;
                }
                become(history.removeLast());
                return "" + history.size();
            case "undoCount":
                return "" + history.size();
            case "saveSnapshot":
                snapshot = new Object[] {new ArrayList<>(patterns), text};
                return "" + patterns.size();
            default:
                if (snapshot == null) {
                    return STATE;
                }
                become(snapshot);
                history.clear();
                return "" + patterns.size();
        }
    }

    private String patternCall(String name, int a, int b, int c) {
        String pattern = patterns.get(a);
        switch (name) {
            case "removePattern":
                change();
                patterns.remove(a);
                return "" + patterns.size();
            case "patternLength":
                return "" + pattern.length();
            case "patternCharacter":
                return at(pattern, b);
            case "groupCount":
                return "" + groupCount(pattern);
            case "minimumLength":
                return "" + treeOf(pattern).shortest();
            case "maximumLength":
                return treeOf(pattern).longest() < 0 ? MISSING : "" + treeOf(pattern).longest();
            case "matchesAll":
            case "matchesAllByThreads":
                return "" + (matchAt(pattern, 0, true) != null);
            case "replaceMatches":
                return replaceMatches(a, b);
            case "find":
            case "findByThreads":
            case "findEnd":
            case "findEndByThreads":
            case "isGroupSet":
            case "groupStart":
            case "groupEnd":
            case "writeMatch":
                return matchCall(name, pattern, b, c);
            default:
                return listCall(name, a, b);
        }
    }

    private static long groupCount(String pattern) {
        return pattern.chars().filter(sign -> sign == '(').count();
    }

    private String replaceMatches(int pattern, int character) {
        if (noCode(character)) {
            return ARGUMENT;
        }
        String result = marked(pattern, match -> "" + (char) character);
        if (result.length() > 40) {
            return STATE;
        }
        int count = matches(pattern).size();
        change();
        text = result;
        return "" + count;
    }

    private String marked(int pattern, java.util.function.Function<String, String> instead) {
        StringBuilder result = new StringBuilder();
        int written = 0;
        for (int[] match : matches(pattern)) {
            result.append(text, written, match[0]).append(instead.apply(text.substring(match[0], match[1])));
            written = match[1];
        }
        return result.append(text.substring(written)).toString();
    }

    private String matchCall(String name, String pattern, int from, int group) {
        if (from < 0 || from > text.length()) {
            return OUTSIDE;
        }
        boolean ofGroup = name.equals("isGroupSet") || name.equals("groupStart") || name.equals("groupEnd");
        if (ofGroup && (group < 1 || group > groupCount(pattern))) {
            return OUTSIDE;
        }
        int[] match = matchFrom(pattern, from);
        if (match == null) {
            return MISSING;
        }
        switch (name) {
            case "find":
            case "findByThreads":
                return "" + match[0];
            case "findEnd":
            case "findEndByThreads":
                return "" + match[1];
            case "isGroupSet":
                return "" + (match[2 * group] >= 0);
            case "groupStart":
                return match[2 * group] < 0 ? MISSING : "" + match[2 * group];
            case "groupEnd":
                return match[2 * group] < 0 ? MISSING : "" + match[2 * group + 1];
            default:
                line = match[0] + "-" + match[1];
                for (int number = 1; number <= groupCount(pattern); number++) {
                    boolean set = match[2 * number] >= 0;
                    line += ";" + number + ":" + (set ? match[2 * number] + "-" + match[2 * number + 1] : "");
                }
                return "" + line.length();
        }
    }

    private String listCall(String name, int pattern, int number) {
        List<int[]> list = matches(pattern);
        boolean missing = number < 0 || number >= list.size();
        switch (name) {
            case "matchCount":
                return "" + list.size();
            case "matchStart":
                return missing ? MISSING : "" + list.get(number)[0];
            case "matchLength":
                return missing ? MISSING : "" + (list.get(number)[1] - list.get(number)[0]);
            case "longestMatch": {
                int longest = -1;
                int length = -1;
                for (int index = 0; index < list.size(); index++) {
                    int[] match = list.get(index);
                    if (match[1] - match[0] > length) {
                        length = match[1] - match[0];
                        longest = index;
                    }
                }
                return longest < 0 ? MISSING : "" + longest;
            }
            case "matchedCharacters":
                return "" + matched(pattern);
            case "meanMatchLength":
                return list.isEmpty() ? ARITHMETIC : "" + (double) matched(pattern) / (double) list.size();
            case "coverage":
                return text.isEmpty() ? ARITHMETIC : "" + (float) matched(pattern) / (float) text.length();
            case "writeMarked":
                line = marked(pattern, match -> "<" + match + ">");
                return "" + line.length();
            default:
                throw new IllegalStateException(name);
        }
    }

    String text() {
        return text;
    }

    List<String> patterns() {
        return patterns;
    }

    int lineLength() {
        return line.length();
    }
}
