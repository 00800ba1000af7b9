import java.util.ArrayList;
import java.util.Arrays;
import java.util.List;
import java.util.Random;
import java.util.function.ToIntFunction;

/** Promises 21 to 34 by the words of the document: the preferred of all ways, told by its choices. */
public final class WayTests {
    private static final int CASES = 10000;

    private record Match(int start, Ways.Way way) {
        int end() {
            return way.end();
        }
    }

    /** A pattern, a text and all ways to match at each position. */
    private record Case(String pattern, String text, List<List<Ways.Way>> ways) {
        RegexTracer engine() {
            return Engines.with(text, pattern);
        }

        String told(String call) {
            return call + " of " + pattern + " in \"" + text + "\"";
        }

        /** The match at the first position, not less than this one, at which there is a way. */
        Match foundFrom(int from) {
            for (int start = from; start <= text.length(); start++) {
                if (!ways.get(start).isEmpty()) {
                    return new Match(start, Ways.preferred(ways.get(start)));
                }
            }
            return null;
        }

        List<Match> matches() {
            List<Match> matches = new ArrayList<>();
            Match match = foundFrom(0);
            while (match != null) {
                matches.add(match);
                int next = match.end() > match.start() ? match.end() : match.end() + 1;
                match = next <= text.length() ? foundFrom(next) : null;
            }
            return matches;
        }
    }

    private static final List<Case> ALL = cases();

    public static void main(String[] arguments) {
        Checks.test("promises 21 and 22: one of all ways ends at the end of the text", WayTests::wholeTexts);
        Checks.test("promises 23 and 25: the first position that has a way",
                () -> found(Match::start, "find", "findByThreads"));
        Checks.test("promises 24 and 26: the end of the preferred of all ways",
                () -> found(Match::end, "findEnd", "findEndByThreads"));
        Checks.test("promises 27 to 29: the groups of the preferred of all ways", WayTests::groups);
        Checks.test("promises 30 to 34: the list of matches", WayTests::lists);
        Checks.end();
    }

    private static List<Case> cases() {
        Random random = new Random(7);
        List<Case> cases = new ArrayList<>();
        while (cases.size() < CASES) {
            String pattern = Patterns.random(random, 3 + random.nextInt(12));
            if (Model.isValid(pattern)) {
                add(cases, pattern, Patterns.text(random, random.nextInt(8)));
            }
        }
        return cases;
    }

    private static void add(List<Case> cases, String pattern, String text) {
        try {
            List<List<Ways.Way>> ways = new ArrayList<>();
            for (int position = 0; position <= text.length(); position++) {
                ways.add(Ways.at(pattern, text, position));
            }
            cases.add(new Case(pattern, text, ways));
        } catch (Ways.TooMany tooMany) {
            // the other cases are enough
        }
    }

    private static void wholeTexts() {
        for (Case one : ALL) {
            boolean due = one.ways.get(0).stream().anyMatch(way -> way.end() == one.text.length());
            check(one, one.engine(), "matchesAll", "" + due);
            check(one, one.engine(), "matchesAllByThreads", "" + due);
        }
    }

    private static void found(ToIntFunction<Match> place, String... names) {
        for (Case one : ALL) {
            RegexTracer engine = one.engine();
            for (int from = 0; from <= one.text.length(); from++) {
                Match match = one.foundFrom(from);
                for (String name : names) {
                    check(one, engine, name, placeOrNone(match == null ? -1 : place.applyAsInt(match)), from);
                }
            }
        }
    }

    private static void groups() {
        for (Case one : ALL) {
            RegexTracer engine = one.engine();
            int count = engine.groupCount(0);
            for (int from = 0; from <= one.text.length(); from++) {
                Match match = one.foundFrom(from);
                for (int group = 1; match != null && group <= count; group++) {
                    int start = match.way.starts()[group];
                    int end = match.way.ends()[group];
                    check(one, engine, "isGroupSet", "" + (start >= 0), from, group);
                    check(one, engine, "groupStart", placeOrNone(start), from, group);
                    check(one, engine, "groupEnd", placeOrNone(end), from, group);
                }
            }
        }
    }

    private static String placeOrNone(int position) {
        return position < 0 ? "throws.NoSuchElementException" : "" + position;
    }

    private static void lists() {
        for (Case one : ALL) {
            RegexTracer engine = one.engine();
            List<Match> matches = one.matches();
            int longest = -1;
            int total = 0;
            check(one, engine, "matchCount", "" + matches.size());
            for (int number = 0; number < matches.size(); number++) {
                Match match = matches.get(number);
                int length = match.end() - match.start();
                check(one, engine, "matchStart", "" + match.start(), number);
                check(one, engine, "matchLength", "" + length, number);
                longest = Math.max(longest, length);
                total += length;
            }
            check(one, engine, "matchedCharacters", "" + total);
            check(one, engine, "longestMatch", placeOrNone(firstOfLength(matches, longest)));
        }
    }

    private static int firstOfLength(List<Match> matches, int length) {
        for (int number = 0; number < matches.size(); number++) {
            if (matches.get(number).end() - matches.get(number).start() == length) {
                return number;
            }
        }
        return -1;
    }

    private static void check(Case one, RegexTracer engine, String name, String due, int... arguments) {
        int second = arguments.length > 0 ? arguments[0] : 0;
        int third = arguments.length > 1 ? arguments[1] : 0;
        String told = one.told(name + Arrays.toString(arguments));
        Checks.same(told, Calls.call(engine, name, 0, second, third), due);
    }
}
