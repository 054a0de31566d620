import java.util.Random;

/** Long runs of random calls, the same ones every time, compared with the model's answers. */
public final class ModelTest {
    private static final int RUNS = 200;
    private static final int CALLS = 500;
    private static final String[] TEXTS = {"ab1 .", "a. ", "aZ09 .,!?'-([)]\"^~`#", "a1", "Dr. ab"};
    private static final String[] LEAVES = {"ABCD.", "AC", "ABCDEFGHIJKL..", "AB.", "ACD"};

    private final Due due = new Due();
    private final Random random;
    private final String signs;
    private final RandomRule rules;
    private final BoundaryAnalyzer x = new BoundaryAnalyzer();
    private final Model model = new Model();
    private final StringBuilder calls = new StringBuilder();
    private final boolean growing;

    private ModelTest(int run) {
        random = new Random(run);
        signs = TEXTS[random.nextInt(TEXTS.length)];
        rules = new RandomRule(random, LEAVES[random.nextInt(LEAVES.length)]);
        growing = run % 4 == 0;
    }

    public static void main(String[] args) {
        int first = args.length > 0 ? Integer.parseInt(args[0]) : 0;
        int runs = args.length > 1 ? Integer.parseInt(args[1]) : RUNS;
        boolean wrong = false;
        for (int run = first; run < first + runs && !wrong; run++) {
            ModelTest test = new ModelTest(run);
            for (int i = 0; i < CALLS && !wrong; i++) {
                test.step();
                if (i % 10 == 0) {
                    test.compareAll();
                }
                wrong = test.due.anyWrong();
            }
            if (wrong) {
                System.out.println("run " + run + ":" + test.calls);
            }
        }
        System.out.println("ModelTest: " + runs + " runs" + (wrong ? ", wrong" : ""));
        if (wrong) {
            System.exit(1);
        }
    }

    private void same(String call, int got, int want) {
        calls.append(' ').append(call).append(" = ").append(got).append(';');
        due.answer(call, got, want);
    }

    private int around(int high) {
        return random.nextInt(20) == 0 ? wild(high) : random.nextInt(high + 1);
    }

    private int wild(int high) {
        int[] odd = {-1, high + 1, high + 2, Integer.MAX_VALUE, Integer.MIN_VALUE, -100};
        return odd[random.nextInt(odd.length)];
    }

    private char sign() {
        if (random.nextInt(25) == 0) {
            return (char) (random.nextBoolean() ? random.nextInt(140) : random.nextInt(65536));
        }
        return signs.charAt(random.nextInt(signs.length()));
    }

    private int position() {
        return around(model.value(0));
    }

    private void step() {
        int choice = random.nextInt(100);
        if (choice < (growing ? 60 : 34)) {
            insert(position(), sign());
        } else if (choice < (growing ? 62 : 50)) {
            erase(position(), around(random.nextInt(4) == 0 ? model.value(0) : 3));
        } else if (choice < 64) {
            same("undo()", x.undo(), model.undo());
        } else if (choice < 74) {
            same("redo()", x.redo(), model.redo());
        } else if (choice < 84) {
            newRule();
        } else if (choice < 86) {
            changeClass();
        } else if (choice < 92) {
            changeExceptions();
        } else if (choice < 94) {
            same("clearPattern()", x.clearPattern(), model.clearPattern());
        } else {
            compareSome();
        }
    }

    private void insert(int position, char sign) {
        same("insert(" + position + ", (char) " + (int) sign + ")", x.insert(position, sign), model.insert(position, sign));
    }

    private void erase(int position, int n) {
        same("erase(" + position + ", " + n + ")", x.erase(position, n), model.erase(position, n));
    }

    private void changeClass() {
        char sign = sign();
        int number = around(random.nextInt(3) == 0 ? 11 : 3);
        same("setClass((char) " + (int) sign + ", " + number + ")", x.setClass(sign, number), model.setClass(sign, number));
    }

    private void type(String all) {
        if (random.nextInt(12) != 0) {
            same("clearPattern()", x.clearPattern(), model.clearPattern());
        }
        for (char sign : all.toCharArray()) {
            same("type((char) " + (int) sign + ")", x.type(sign), model.type(sign));
        }
    }

    private void newRule() {
        int kind = around(2);
        int place = around(4);
        int form = random.nextInt(8);
        if (form == 0) {
            type("");
        } else if (form == 1) {
            type(broken(rules.write()));
        } else {
            type(rules.write());
        }
        same("setRule(" + kind + ", " + place + ")", x.setRule(kind, place), model.setRule(kind, place));
    }

    private String broken(String rule) {
        String odd = "()|/*+?.ALMa@ \u00e9\uffff((((";
        StringBuilder all = new StringBuilder(rule);
        int at = random.nextInt(rule.length());
        if (random.nextBoolean()) {
            all.setCharAt(at, odd.charAt(random.nextInt(odd.length())));
        } else {
            all.setLength(at);
        }
        return all.toString();
    }

    private void changeExceptions() {
        StringBuilder word = new StringBuilder();
        int length = random.nextInt(5) == 0 ? random.nextInt(11) : 1 + random.nextInt(2);
        for (int i = 0; i < length; i++) {
            word.append(random.nextInt(4) == 0 ? sign() : signs.charAt(0));
        }
        type(word.toString());
        if (random.nextInt(3) == 0) {
            same("removeException()", x.removeException(), model.removeException());
        } else {
            same("addException()", x.addException(), model.addException());
        }
    }

    private void compareSome() {
        int kind = around(2);
        int place = around(4);
        int p = position();
        int number = around(11);
        int i = around(6);
        char sign = sign();
        same("classOf((char) " + (int) sign + ")", x.classOf(sign), model.classOf(sign));
        same("ruleText(" + kind + ", " + place + ", " + i + ")", x.ruleText(kind, place, i), model.ruleText(kind, place, i));
        same("matchLength(" + kind + ", " + place + ", " + p + ")", x.matchLength(kind, place, p), model.matchLength(kind, place, p));
        same("charAt(" + p + ")", x.charAt(p), model.charAt(p));
        same("value(" + i + ")", x.value(i), model.value(i));
        same("boundaryAt(" + kind + ", " + p + ")", x.boundaryAt(kind, p), model.boundaryAt(kind, p));
        same("next(" + kind + ", " + p + ")", x.next(kind, p), model.next(kind, p));
        same("previous(" + kind + ", " + p + ")", x.previous(kind, p), model.previous(kind, p));
        same("segmentCount(" + kind + ")", x.segmentCount(kind), model.segmentCount(kind));
        same("segment(" + kind + ", " + p + ")", x.segment(kind, p), model.segment(kind, p));
        same("longest(" + kind + ")", x.longest(kind), model.longest(kind));
        same("segmentsWith(" + kind + ", " + number + ")", x.segmentsWith(kind, number), model.segmentsWith(kind, number));
        same("looksAt(" + kind + ", " + p + ")", x.looksAt(kind, p), model.looksAt(kind, p));
        same("work(" + kind + ")", x.work(kind), model.work(kind));
    }

    private void compareAll() {
        for (int kind = 0; kind < 3; kind++) {
            due.answer("work(" + kind + ")", x.work(kind), model.work(kind));
            due.answer("segmentCount(" + kind + ")", x.segmentCount(kind), model.segmentCount(kind));
            due.answer("longest(" + kind + ")", x.longest(kind), model.longest(kind));
            for (int p = 0; p <= model.value(0); p++) {
                due.answer("boundaryAt(" + kind + ", " + p + ")", x.boundaryAt(kind, p), model.boundaryAt(kind, p));
                due.answer("looksAt(" + kind + ", " + p + ")", x.looksAt(kind, p), model.looksAt(kind, p));
            }
        }
        for (int what = 0; what < 5; what++) {
            due.answer("value(" + what + ")", x.value(what), model.value(what));
        }
    }
}
