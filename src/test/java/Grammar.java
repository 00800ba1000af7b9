import java.util.ArrayList;
import java.util.LinkedHashMap;
import java.util.List;
import java.util.Map;

/**
 * All valid patterns up to a length, made of the grammar of the document and not read by it: each
 * rule puts together what the rules on its right side made. "a" stands for all characters. Groups
 * are not counted: six of them need more characters than are made here.
 */
final class Grammar {
    /** For each length the words that a rule makes, each with whether it can match the empty text. */
    private final List<Map<String, Boolean>> atoms = new ArrayList<>();
    private final List<Map<String, Boolean>> items = new ArrayList<>();
    private final List<Map<String, Boolean>> branches = new ArrayList<>();
    private final List<Map<String, Boolean>> patterns = new ArrayList<>();

    Grammar(int longest) {
        for (int length = 0; length <= longest; length++) {
            atoms.add(atoms(length));
            items.add(items(length));
            branches.add(branches(length));
            patterns.add(patterns(length));
        }
    }

    List<String> patternsUpTo(int length) {
        List<String> words = new ArrayList<>();
        for (int its = 0; its <= length; its++) {
            words.addAll(patterns.get(its).keySet());
        }
        return words;
    }

    private Map<String, Boolean> atoms(int length) {
        Map<String, Boolean> words = new LinkedHashMap<>();
        if (length == 1) {
            words.put("a", false);
            words.put(".", false);
        }
        if (length >= 2) {
            patterns.get(length - 2).forEach((inner, empty) -> words.put("(" + inner + ")", empty));
        }
        if (length >= 3) {
            words.put("[" + "a".repeat(length - 2) + "]", false);
        }
        if (length >= 4) {
            words.put("[^" + "a".repeat(length - 3) + "]", false);
        }
        return words;
    }

    private Map<String, Boolean> items(int length) {
        Map<String, Boolean> words = new LinkedHashMap<>(atoms.get(length));
        if (length >= 2) {
            atoms.get(length - 1).forEach((atom, empty) -> {
                words.put(atom + "?", true);
                if (!empty) {
                    words.put(atom + "*", true);
                    words.put(atom + "+", false);
                }
            });
        }
        return words;
    }

    private Map<String, Boolean> branches(int length) {
        Map<String, Boolean> words = new LinkedHashMap<>();
        if (length == 0) {
            words.put("", true);
        }
        for (int first = 1; first <= length; first++) {
            Map<String, Boolean> rest = branches.size() > length - first ? branches.get(length - first) : Map.of();
            items.get(first).forEach((item, empty) -> rest.forEach(
                    (more, moreEmpty) -> words.put(item + more, empty && moreEmpty)));
        }
        return words;
    }

    private Map<String, Boolean> patterns(int length) {
        Map<String, Boolean> words = new LinkedHashMap<>(branches.get(length));
        for (int first = 0; first < length; first++) {
            Map<String, Boolean> rest = patterns.get(length - first - 1);
            branches.get(first).forEach((branch, empty) -> rest.forEach(
                    (more, moreEmpty) -> words.put(branch + "|" + more, empty || moreEmpty)));
        }
        return words;
    }
}
