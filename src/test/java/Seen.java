import java.util.ArrayList;
import java.util.List;

/**
 * All that can be seen of an object behind some calls, so that two runs of calls can be compared.
 * Some of it is only seen by calls that change the object, and an object is good for 512 calls; so
 * each part is seen on an object of its own, on which the same calls have been made.
 */
final class Seen {
    /** Calls on an object. */
    interface Calls {
        void on(BoundaryAnalyzer x);
    }

    /** A call on an object, with its answer. */
    interface Call {
        int on(BoundaryAnalyzer x);
    }

    private static final String[] WORDS = {"Dr", "No", "a", "b", "c", "d", "e", "f", "g", "h", "i", "j", "abcdefgh"};

    private final Calls made;
    private final List<String> all = new ArrayList<>();

    private Seen(Calls made) {
        this.made = made;
    }

    static List<String> behind(Calls made) {
        Seen seen = new Seen(made);
        seen.numbersAndClasses();
        for (int kind = 0; kind < 3; kind++) {
            seen.boundaries(kind);
            seen.segments(kind);
            seen.rules(kind);
        }
        seen.pattern();
        seen.exceptions();
        seen.whatCanBeUndone();
        seen.whatCanBeRedone();
        return seen.all;
    }

    private BoundaryAnalyzer again() {
        BoundaryAnalyzer x = new BoundaryAnalyzer();
        made.on(x);
        return x;
    }

    private void add(String call, int answer) {
        all.add(call + " = " + answer);
    }

    private void numbersAndClasses() {
        BoundaryAnalyzer x = again();
        for (int what = 0; what < 5; what++) {
            add("value(" + what + ")", x.value(what));
        }
        all.add("the works " + Make.works(x));
        all.add("the text " + Make.text(x));
        for (char code = 32; code <= 126; code++) {
            add("classOf(" + (int) code + ")", x.classOf(code));
        }
    }

    private void boundaries(int kind) {
        BoundaryAnalyzer x = again();
        all.add("the boundaries of kind " + kind + ": " + Make.states(x, kind));
        all.add("the looks of kind " + kind + ": " + Make.looks(x, kind));
    }

    private void segments(int kind) {
        BoundaryAnalyzer x = again();
        int length = x.value(0);
        add("segmentCount(" + kind + ")", x.segmentCount(kind));
        add("longest(" + kind + ")", x.longest(kind));
        for (int number = 0; number < 12; number++) {
            add("segmentsWith(" + kind + ", " + number + ")", x.segmentsWith(kind, number));
        }
        for (int p = 0; p <= length; p++) {
            add("next(" + kind + ", " + p + ")", x.next(kind, p));
            add("previous(" + kind + ", " + p + ")", x.previous(kind, p));
            add("segment(" + kind + ", " + p + ")", x.segment(kind, p));
        }
    }

    private void rules(int kind) {
        BoundaryAnalyzer x = again();
        int length = x.value(0);
        for (int place = 0; place < 5; place++) {
            all.add("the rule at " + kind + ", " + place + ": " + Make.rule(x, kind, place));
            for (int p = 0; p <= length && p < 12; p++) {
                add("matchLength(" + kind + ", " + place + ", " + p + ")", x.matchLength(kind, place, p));
            }
        }
    }

    /** The pattern can be read only where it is a word, or a rule. */
    private void pattern() {
        BoundaryAnalyzer x = again();
        add("setRule(0, 0)", x.setRule(0, 0));
        all.add("the pattern as a rule: " + Make.rule(x, 0, 0));
        BoundaryAnalyzer y = again();
        add("removeException()", y.removeException());
        add("addException()", y.addException());
    }

    private void exceptions() {
        BoundaryAnalyzer x = again();
        for (String word : WORDS) {
            add("removeException() of " + word, Make.typed(x, word).removeException());
        }
        add("value(2)", x.value(2));
    }

    private void whatCanBeUndone() {
        BoundaryAnalyzer x = again();
        for (int i = 0; i < 32; i++) {
            add("undo()", x.undo());
            add("value(0)", x.value(0));
            all.add("its works " + Make.works(x));
        }
        all.add("the text with all undone " + Make.text(x));
    }

    private void whatCanBeRedone() {
        BoundaryAnalyzer x = again();
        for (int i = 0; i < 32; i++) {
            add("redo()", x.redo());
            add("value(0)", x.value(0));
            all.add("its works " + Make.works(x));
        }
        all.add("the text with all redone " + Make.text(x));
    }
}
