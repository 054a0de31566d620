import java.util.Random;
import java.util.regex.Matcher;
import java.util.regex.Pattern;

/**
 * Rules on small texts, compared with the Java library's regular expressions, whose letters and
 * signs mean what those of a rule do: the length of a rule (promise 8), the segment at a position,
 * and what the analysis there looks at (promise 24).
 */
public final class RegexTest {
    private static final int RULES = 1500;
    private static final int TEXTS = 6;
    private static final int LONGEST_TEXT = 9;
    /** A character of each of the classes A to L. */
    private static final String SIGNS = "a1 .,!'-()^#";
    private static final String[] LEAVES = {"AB", "AB.", "ACD", "ABCDEFGHIJKL."};

    private static final Due due = new Due();

    public static void main(String[] args) {
        Random random = new Random(RULES);
        for (int i = 0; i < RULES; i++) {
            String leaves = LEAVES[i % LEAVES.length];
            RandomRule rules = new RandomRule(random, leaves);
            String first = rules.write();
            String second = rules.write();
            for (int j = 0; j < TEXTS; j++) {
                compare(first, second, classes(random, leaves));
            }
        }
        due.end("RegexTest");
    }

    /** The classes of a text: those of the leaves, and L, which often no leaf but the dot takes. */
    private static String classes(Random random, String leaves) {
        StringBuilder all = new StringBuilder();
        int length = 1 + random.nextInt(LONGEST_TEXT);
        for (int i = 0; i < length; i++) {
            char leaf = leaves.charAt(random.nextInt(leaves.length()));
            all.append(leaf == '.' || random.nextInt(8) == 0 ? 'L' : leaf);
        }
        return all.toString();
    }

    private static void compare(String first, String second, String classes) {
        BoundaryAnalyzer x = new BoundaryAnalyzer();
        Make.ruled(x, 1, 2, first);
        Make.ruled(x, 1, 4, second);
        for (int i = 0; i < classes.length(); i++) {
            x.insert(i, SIGNS.charAt(classes.charAt(i) - 'A'));
        }
        String name = first + " and " + second + " on " + classes + ": ";
        for (int p = 0; p <= classes.length(); p++) {
            String rest = classes.substring(p);
            due.answer(name + "matchLength(1, 2, " + p + ")", x.matchLength(1, 2, p), length(first, rest));
            due.answer(name + "matchLength(1, 4, " + p + ")", x.matchLength(1, 4, p), length(second, rest));
        }
        segments(name, x, first, second, classes);
    }

    private static void segments(String name, BoundaryAnalyzer x, String first, String second, String classes) {
        int end = 0;
        for (int p = 0; p < classes.length(); p++) {
            String rest = classes.substring(p);
            due.answer(name + "boundaryAt(1, " + p + ")", x.boundaryAt(1, p), p == end ? 1 : 0);
            due.answer(name + "looksAt(1, " + p + ")", x.looksAt(1, p), Math.max(looks(first, rest), looks(second, rest)));
            if (p == end) {
                end += Math.max(1, Math.max(length(first, rest), length(second, rest)));
            }
        }
    }

    private static int length(String rule, String rest) {
        int slash = rule.indexOf('/');
        Pattern body = Pattern.compile(slash < 0 ? rule : rule.substring(0, slash));
        Pattern ahead = Pattern.compile(slash < 0 ? "" : rule.substring(slash + 1));
        for (int n = rest.length(); n >= 1; n--) {
            if (body.matcher(rest.substring(0, n)).matches() && ahead.matcher(rest.substring(n)).lookingAt()) {
                return n;
            }
        }
        return 0;
    }

    /**
     * What is the beginning of a match either matches, or the library came to its end and wanted
     * more. One character more than begins a match is looked at; behind the last one, the end is.
     */
    private static int looks(String rule, String rest) {
        int slash = rule.indexOf('/');
        Pattern whole = Pattern.compile(slash < 0 ? rule
                : "(" + rule.substring(0, slash) + ")(" + rule.substring(slash + 1) + ")");
        for (int n = 1; n <= rest.length(); n++) {
            Matcher begins = whole.matcher(rest.substring(0, n));
            if (!begins.matches() && !begins.hitEnd()) {
                return n;
            }
        }
        return rest.length() + 1;
    }
}
