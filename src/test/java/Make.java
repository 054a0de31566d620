/** Makes analysers for tests, and reads them as texts. */
final class Make {
    private Make() {}

    static BoundaryAnalyzer fresh() {
        return new BoundaryAnalyzer();
    }

    /** An analyser whose text is this one. */
    static BoundaryAnalyzer with(String text) {
        return append(fresh(), text);
    }

    static BoundaryAnalyzer append(BoundaryAnalyzer x, String text) {
        int length = x.value(0);
        for (char sign : text.toCharArray()) {
            accepted("the text " + text, x.insert(length, sign) == length + 1);
            length++;
        }
        return x;
    }

    /** Makes the pattern this one. */
    static BoundaryAnalyzer typed(BoundaryAnalyzer x, String pattern) {
        x.clearPattern();
        for (char sign : pattern.toCharArray()) {
            accepted("the pattern " + pattern, x.type(sign) > 0);
        }
        return x;
    }

    static BoundaryAnalyzer ruled(BoundaryAnalyzer x, int kind, int place, String pattern) {
        accepted("the rule " + pattern, typed(x, pattern).setRule(kind, place) >= 0);
        return x;
    }

    static BoundaryAnalyzer excepting(BoundaryAnalyzer x, String word) {
        accepted("the exception " + word, typed(x, word).addException() > 0);
        return x;
    }

    private static void accepted(String what, boolean held) {
        if (!held) {
            throw new IllegalStateException(what + " was refused");
        }
    }

    static String text(BoundaryAnalyzer x) {
        StringBuilder all = new StringBuilder();
        int length = x.value(0);
        for (int i = 0; i < length; i++) {
            all.append((char) x.charAt(i));
        }
        return all.toString();
    }

    /** The characters of a rule. */
    static String rule(BoundaryAnalyzer x, int kind, int place) {
        StringBuilder all = new StringBuilder();
        for (int i = 0; i < 30; i++) {
            int sign = x.ruleText(kind, place, i);
            if (sign < 0) {
                break;
            }
            all.append((char) sign);
        }
        return all.toString();
    }

    /** The states of all positions, a digit each. */
    static String states(BoundaryAnalyzer x, int kind) {
        StringBuilder all = new StringBuilder();
        int length = x.value(0);
        for (int i = 0; i <= length; i++) {
            all.append(x.boundaryAt(kind, i));
        }
        return all.toString();
    }

    /** What the analyses at all positions look at. */
    static String looks(BoundaryAnalyzer x, int kind) {
        StringBuilder all = new StringBuilder();
        int length = x.value(0);
        for (int i = 0; i < length; i++) {
            all.append(i == 0 ? "" : " ").append(x.looksAt(kind, i));
        }
        return all.toString();
    }

    /** The work of the three kinds. */
    static String works(BoundaryAnalyzer x) {
        return x.work(0) + " " + x.work(1) + " " + x.work(2);
    }
}
