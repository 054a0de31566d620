import java.util.Random;

/** Writes rules of the document's grammar, at most 24 characters long. */
final class RandomRule {
    private final Random random;
    private final String leaves;

    /** The leaves are the class letters and dots to choose from. */
    RandomRule(Random random, String leaves) {
        this.random = random;
        this.leaves = leaves;
    }

    String write() {
        String all;
        do {
            all = alternatives(0) + (random.nextInt(3) == 0 ? "/" + alternatives(0) : "");
        } while (all.length() > 24);
        return all;
    }

    private String alternatives(int depth) {
        String all = sequence(depth);
        while (random.nextInt(4) == 0) {
            all += "|" + sequence(depth);
        }
        return all;
    }

    private String sequence(int depth) {
        String all = item(depth);
        while (random.nextInt(3) == 0) {
            all += item(depth);
        }
        return all;
    }

    private String item(int depth) {
        String inner = depth < 4 && random.nextInt(3) == 0 ? "(" + alternatives(depth + 1) + ")"
                : String.valueOf(leaves.charAt(random.nextInt(leaves.length())));
        return inner + (random.nextBoolean() ? "" : String.valueOf("*+?".charAt(random.nextInt(3))));
    }
}
