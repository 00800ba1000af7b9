import java.util.Random;

/** Random patterns, most of them valid, and texts that they may match. */
final class Patterns {
    private Patterns() {
    }

    static String random(Random random, int room) {
        StringBuilder pattern = new StringBuilder();
        branches(random, room, 0, pattern);
        return pattern.substring(0, Math.min(room, pattern.length()));
    }

    private static void branches(Random random, int room, int depth, StringBuilder pattern) {
        int items = random.nextInt(5);
        for (int item = 0; item < items && pattern.length() < room; item++) {
            atom(random, room, depth, pattern);
            int sign = random.nextInt(8);
            if (sign < 3) {
                pattern.append("*+?".charAt(sign));
            }
            if (random.nextInt(6) == 0) {
                pattern.append('|');
            }
        }
    }

    private static void atom(Random random, int room, int depth, StringBuilder pattern) {
        int choice = random.nextInt(9);
        if (choice < 3 && depth < 4) {
            pattern.append('(');
            branches(random, room - 1, depth + 1, pattern);
            pattern.append(')');
        } else if (choice == 3) {
            pattern.append(random.nextBoolean() ? "[ab]" : random.nextBoolean() ? "[^a]" : "[^b c]");
        } else if (choice == 4) {
            pattern.append('.');
        } else {
            pattern.append("aabbc".charAt(random.nextInt(5)));
        }
    }

    static String text(Random random, int length) {
        StringBuilder text = new StringBuilder();
        for (int index = 0; index < length; index++) {
            text.append("aaabbbc A".charAt(random.nextInt(9)));
        }
        return text.toString();
    }
}
