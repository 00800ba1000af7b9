import java.util.ArrayList;
import java.util.Arrays;
import java.util.List;

/**
 * All ways in which a pattern can match at a position, each with its choices from left to right.
 * Nothing is tried in an order of preference: the preferred way is told by its choices alone.
 */
final class Ways {
    /** More ways than these are not looked at. */
    private static final int MOST = 3000;

    static final class TooMany extends RuntimeException {
        private static final long serialVersionUID = 1L;
    }

    /** A choice is the number of a branch, or 0 for one more repetition and 1 for none; a group not set has -1. */
    record Way(int end, List<Integer> choices, int[] starts, int[] ends) {
        Way choosing(int choice) {
            List<Integer> more = new ArrayList<>(choices);
            more.add(choice);
            return new Way(end, more, starts, ends);
        }

        Way taking() {
            return new Way(end + 1, choices, starts, ends);
        }

        Way grouping(int group, int start) {
            int[] newStarts = starts.clone();
            int[] newEnds = ends.clone();
            newStarts[group] = start;
            newEnds[group] = end;
            return new Way(end, choices, newStarts, newEnds);
        }

        /** The first choice that differs decides. */
        boolean isPreferredTo(Way other) {
            for (int index = 0; index < choices.size() && index < other.choices.size(); index++) {
                if (!choices.get(index).equals(other.choices.get(index))) {
                    return choices.get(index) < other.choices.get(index);
                }
            }
            throw new IllegalStateException("two ways with the same choices");
        }
    }

    private final String text;

    private Ways(String text) {
        this.text = text;
    }

    static List<Way> at(String pattern, String text, int position) {
        int[] unset = new int[6];
        Arrays.fill(unset, -1);
        return new Ways(text).after(tree(pattern), new Way(position, List.of(), unset, unset));
    }

    private static Model.Tree tree(String pattern) {
        try {
            return Model.Parser.parse(pattern);
        } catch (Model.Invalid invalid) {
            throw new IllegalStateException(invalid);
        }
    }

    /** The preferred one, or null if there is none. */
    static Way preferred(List<Way> ways) {
        Way best = null;
        for (Way way : ways) {
            if (best == null || way.isPreferredTo(best)) {
                best = way;
            }
        }
        return best;
    }

    private List<Way> after(Model.Tree tree, Way before) {
        return switch (tree.kind) {
            case '|' -> branches(tree, before);
            case '&' -> items(tree, before);
            case '(' -> group(tree, before);
            case '?' -> repetitions(tree.parts.get(0), List.of(before), 1);
            case '*' -> repetitions(tree.parts.get(0), List.of(before), text.length());
            case '+' -> repetitions(tree.parts.get(0), after(tree.parts.get(0), before), text.length());
            default -> takes(tree, before.end()) ? List.of(before.taking()) : List.of();
        };
    }

    private List<Way> branches(Model.Tree tree, Way before) {
        List<Way> ways = new ArrayList<>();
        for (int branch = 0; branch < tree.parts.size(); branch++) {
            ways.addAll(after(tree.parts.get(branch), before.choosing(branch)));
        }
        return ways;
    }

    private List<Way> items(Model.Tree tree, Way before) {
        List<Way> ways = List.of(before);
        for (Model.Tree item : tree.parts) {
            ways = afterEach(item, ways);
        }
        return ways;
    }

    private List<Way> group(Model.Tree tree, Way before) {
        List<Way> ways = new ArrayList<>();
        for (Way inner : after(tree.parts.get(0), before)) {
            ways.add(inner.grouping(tree.group, before.end()));
        }
        return ways;
    }

    /** No text has more repetitions that are not empty than characters. */
    private List<Way> repetitions(Model.Tree atom, List<Way> begun, int most) {
        List<Way> ways = new ArrayList<>();
        List<Way> running = begun;
        for (int repetition = 0; repetition < most; repetition++) {
            List<Way> going = new ArrayList<>();
            for (Way way : running) {
                ways.add(way.choosing(1));
                going.add(way.choosing(0));
            }
            running = afterEach(atom, going);
        }
        ways.addAll(running);
        return ways;
    }

    private List<Way> afterEach(Model.Tree tree, List<Way> before) {
        List<Way> ways = new ArrayList<>();
        for (Way way : before) {
            ways.addAll(after(tree, way));
        }
        if (ways.size() > MOST) {
            throw new TooMany();
        }
        return ways;
    }

    private boolean takes(Model.Tree tree, int position) {
        if (position >= text.length()) {
            return false;
        }
        boolean listed = tree.listed.indexOf(text.charAt(position)) >= 0;
        return tree.kind == '.' || listed == (tree.kind != '^');
    }
}
