/** Small texts, each with each edit that can be made to it, compared with the model. */
final class SmallTexts {
    private static final String SIGNS = "a1.";

    private final String[] rules;
    int edits;
    int wrong;
    String firstWrong = "none";

    /** The rules of the kinds 0, 1 and 2. */
    SmallTexts(String[] rules) {
        this.rules = rules;
    }

    /** Tries all texts that begin so, up to a length. */
    void all(String text, int longest) {
        tryEdits(text);
        for (int i = 0; i < SIGNS.length() && text.length() < longest; i++) {
            all(text + SIGNS.charAt(i), longest);
        }
    }

    private void tryEdits(String text) {
        for (int position = 0; position <= text.length(); position++) {
            for (char sign : SIGNS.toCharArray()) {
                tryEdit(text, position, sign, 0);
            }
            for (int n = 1; n <= text.length() - position; n++) {
                tryEdit(text, position, ' ', n);
            }
        }
    }

    /** An insertion, if n is 0, or an erasure; it is undone and redone, and a character is put behind it. */
    private void tryEdit(String text, int position, char sign, int n) {
        edits++;
        BoundaryAnalyzer x = new BoundaryAnalyzer();
        Model model = new Model();
        for (int kind = 0; kind < rules.length; kind++) {
            Make.ruled(x, kind, 0, rules[kind]);
            model.clearPattern();
            for (char letter : rules[kind].toCharArray()) {
                model.type(letter);
            }
            model.setRule(kind, 0);
        }
        Make.append(x, text);
        for (int i = 0; i < text.length(); i++) {
            model.insert(i, text.charAt(i));
        }
        String name = "'" + text + "' at " + position + (n == 0 ? " with " + sign : " less " + n);
        if (n == 0) {
            x.insert(position, sign);
            model.insert(position, sign);
        } else {
            x.erase(position, n);
            model.erase(position, n);
        }
        compare(name, x, model);
        x.undo();
        model.undo();
        compare(name + ", undone", x, model);
        x.redo();
        model.redo();
        compare(name + ", redone", x, model);
        int end = model.value(0);
        x.insert(end, 'a');
        model.insert(end, 'a');
        compare(name + ", with one more at the end", x, model);
    }

    private void compare(String name, BoundaryAnalyzer x, Model model) {
        BoundaryAnalyzer fresh = Make.with(Make.text(x));
        for (int kind = 0; kind < rules.length; kind++) {
            Make.ruled(fresh, kind, 0, rules[kind]);
            differs(name + ": boundaries of kind " + kind, Make.states(x, kind), Make.states(fresh, kind));
            differs(name + ": looks of kind " + kind, Make.looks(x, kind), Make.looks(fresh, kind));
            differs(name + ": work(" + kind + ")", "" + x.work(kind), "" + model.work(kind));
            for (int p = 0; p <= model.value(0); p++) {
                differs(name + ": boundaryAt", "" + x.boundaryAt(kind, p), "" + model.boundaryAt(kind, p));
            }
        }
    }

    private void differs(String what, String got, String want) {
        if (!got.equals(want)) {
            wrong++;
            if (wrong == 1) {
                firstWrong = what + " is " + got + ", due is " + want;
            }
        }
    }
}
