import java.util.ArrayList;
import java.util.BitSet;
import java.util.HashMap;
import java.util.IdentityHashMap;
import java.util.List;
import java.util.Map;

/**
 * A pattern as the document's grammar says it, for the model: read by descent, matched by sets of
 * ends, and asked for beginnings by derivatives. All of it is done in another way than by the class
 * under test, and none of it is quick.
 */
final class ModelPattern {
    /** The index of the first character that is not allowed, or the length. */
    static final class Fault extends Exception {
        private static final long serialVersionUID = 1L;
        final int index;

        Fault(int index) {
            this.index = index;
        }
    }

    /** A language over class numbers. */
    interface Node {
        boolean nullable();

        /** What may follow a character of the class, or null if nothing may begin with it. */
        Node after(int number);

        /** Where matches that begin at the given indexes can end. */
        BitSet ends(int[] classes, BitSet from);

        String name();
    }

    record Empty() implements Node {
        public boolean nullable() {
            return true;
        }

        public Node after(int number) {
            return null;
        }

        public BitSet ends(int[] classes, BitSet from) {
            return from;
        }

        public String name() {
            return "e";
        }
    }

    record Leaf(char sign) implements Node {
        boolean takes(int number) {
            return sign == '.' || sign - 'A' == number;
        }

        public boolean nullable() {
            return false;
        }

        public Node after(int number) {
            return takes(number) ? new Empty() : null;
        }

        public BitSet ends(int[] classes, BitSet from) {
            BitSet ends = new BitSet();
            from.stream().filter(i -> i < classes.length && takes(classes[i])).forEach(i -> ends.set(i + 1));
            return ends;
        }

        public String name() {
            return String.valueOf(sign);
        }
    }

    record Then(Node left, Node right) implements Node {
        public boolean nullable() {
            return left.nullable() && right.nullable();
        }

        public Node after(int number) {
            Node first = left.after(number);
            Node whole = first == null ? null : spreadThen(first, right);
            return left.nullable() ? or(whole, right.after(number)) : whole;
        }

        public BitSet ends(int[] classes, BitSet from) {
            return right.ends(classes, left.ends(classes, from));
        }

        public String name() {
            return "[" + left.name() + " " + right.name() + "]";
        }
    }

    record Or(List<Node> ways) implements Node {
        public boolean nullable() {
            return ways.stream().anyMatch(Node::nullable);
        }

        public Node after(int number) {
            Node all = null;
            for (Node way : ways) {
                all = or(all, way.after(number));
            }
            return all;
        }

        public BitSet ends(int[] classes, BitSet from) {
            BitSet ends = new BitSet();
            ways.forEach(way -> ends.or(way.ends(classes, from)));
            return ends;
        }

        public String name() {
            return ways.stream().map(Node::name).sorted().toList().toString();
        }
    }

    record Star(Node inner) implements Node {
        public boolean nullable() {
            return true;
        }

        public Node after(int number) {
            Node first = inner.after(number);
            return first == null ? null : spreadThen(first, this);
        }

        public BitSet ends(int[] classes, BitSet from) {
            BitSet ends = (BitSet) from.clone();
            BitSet fresh = from;
            while (!fresh.isEmpty()) {
                fresh = (BitSet) inner.ends(classes, fresh).clone();
                fresh.andNot(ends);
                ends.or(fresh);
            }
            return ends;
        }

        public String name() {
            return inner.name() + "*";
        }
    }

    static Node then(Node left, Node right) {
        return left instanceof Empty ? right : right instanceof Empty ? left : new Then(left, right);
    }

    /** The same language as then, in a form in which what comes after has few different names. */
    static Node spreadThen(Node left, Node right) {
        if (left instanceof Then both) {
            return spreadThen(both.left(), spreadThen(both.right(), right));
        }
        if (left instanceof Or or) {
            Node all = null;
            for (Node way : or.ways()) {
                all = or(all, spreadThen(way, right));
            }
            return all;
        }
        return then(left, right);
    }

    static Node or(Node left, Node right) {
        if (left == null || right == null) {
            return left == null ? right : left;
        }
        List<Node> ways = new ArrayList<>();
        addWays(ways, left);
        addWays(ways, right);
        return ways.size() == 1 ? ways.get(0) : new Or(ways);
    }

    private static void addWays(List<Node> ways, Node node) {
        if (node instanceof Or or) {
            or.ways().forEach(way -> addWays(ways, way));
        } else if (ways.stream().noneMatch(way -> way.name().equals(node.name()))) {
            ways.add(node);
        }
    }

    final Node body;
    final Node ahead;
    private final String signs;
    private int at;
    private final Map<Node, String> names = new IdentityHashMap<>();
    private final Map<String, Node> known = new HashMap<>();
    private final Map<String, Integer> lengths = new HashMap<>();

    ModelPattern(String signs) throws Fault {
        this.signs = signs;
        body = alternatives(0);
        if (sees("/")) {
            at++;
            ahead = alternatives(0);
        } else {
            ahead = new Empty();
        }
        if (at < signs.length()) {
            throw new Fault(at);
        }
    }

    private boolean sees(String any) {
        return at < signs.length() && any.indexOf(signs.charAt(at)) >= 0;
    }

    private Node alternatives(int depth) throws Fault {
        Node all = sequence(depth);
        while (sees("|")) {
            at++;
            all = or(all, sequence(depth));
        }
        return all;
    }

    private Node sequence(int depth) throws Fault {
        Node all = item(depth);
        while (sees("ABCDEFGHIJKL.") || (sees("(") && depth < 4)) {
            all = then(all, item(depth));
        }
        return all;
    }

    private Node item(int depth) throws Fault {
        Node inner;
        if (sees("ABCDEFGHIJKL.")) {
            inner = new Leaf(signs.charAt(at));
            at++;
        } else if (sees("(") && depth < 4) {
            at++;
            inner = alternatives(depth + 1);
            if (!sees(")")) {
                throw new Fault(at);
            }
            at++;
        } else {
            throw new Fault(at);
        }
        if (!sees("*+?")) {
            return inner;
        }
        char repetition = signs.charAt(at);
        at++;
        return switch (repetition) {
            case '*' -> new Star(inner);
            case '+' -> then(inner, new Star(inner));
            default -> or(inner, new Empty());
        };
    }

    /** The length of the rule at a position; each is found once only for the same classes from there on. */
    int length(int[] classes, int from) {
        StringBuilder rest = new StringBuilder();
        for (int i = from; i < classes.length; i++) {
            rest.append((char) ('A' + classes[i]));
        }
        return lengths.computeIfAbsent(rest.toString(), key -> findLength(classes, from));
    }

    private int findLength(int[] classes, int from) {
        BitSet ends = body.ends(classes, only(from));
        for (int n = classes.length - from; n >= 1; n--) {
            if (ends.get(from + n) && !ahead.ends(classes, only(from + n)).isEmpty()) {
                return n;
            }
        }
        return 0;
    }

    private static BitSet only(int index) {
        BitSet set = new BitSet();
        set.set(index);
        return set;
    }

    /** How many of the classes from an index on begin a sequence that the rule matches, at most. */
    int beginning(int[] classes, int from) {
        Node left = then(body, ahead);
        for (int i = from; i < classes.length; i++) {
            left = afterOnce(left, classes[i]);
            if (left == null) {
                return i - from;
            }
        }
        return classes.length - from;
    }

    /** The same as after, but each answer is found once only. */
    private Node afterOnce(Node node, int number) {
        String key = number + " " + names.computeIfAbsent(node, Node::name);
        if (!known.containsKey(key)) {
            known.put(key, node.after(number));
        }
        return known.get(key);
    }
}
