/** The four examples of the document, call by call. */
public final class ExamplesTest {
    private static final Due due = new Due();
    private static BoundaryAnalyzer x;

    public static void main(String[] args) {
        words();
        lookAhead();
        alternativesAndException();
        emptyTextAndErrors();
        due.end("ExamplesTest");
    }

    private static void type(char sign, int want) {
        due.answer("type('" + sign + "')", x.type(sign), want);
    }

    private static void insert(int position, char sign, int want) {
        due.answer("insert(" + position + ", '" + sign + "')", x.insert(position, sign), want);
    }

    private static void words() {
        x = new BoundaryAnalyzer();
        type('A', 1);
        type('+', 2);
        due.answer("1: setRule(1, 0)", x.setRule(1, 0), 0);
        insert(0, 'a', 1);
        insert(1, 'b', 2);
        insert(2, ' ', 3);
        insert(3, 'c', 4);
        due.answer("1: segmentCount(1)", x.segmentCount(1), 3);
        due.answer("1: next(1, 0)", x.next(1, 0), 2);
        due.answer("1: work(1)", x.work(1), 1);
        due.answer("1: work(0)", x.work(0), 1);
        insert(4, 'd', 5);
        due.answer("1: work(1)", x.work(1), 1);
        due.answer("1: looksAt(1, 0)", x.looksAt(1, 0), 3);
        due.answer("1: erase(2, 1)", x.erase(2, 1), 4);
        due.answer("1: segment(1, 1)", x.segment(1, 1), -5);
    }

    private static void lookAhead() {
        x = new BoundaryAnalyzer();
        type('B', 1);
        type('+', 2);
        type('/', 3);
        type('D', 4);
        due.answer("2: setRule(0, 1)", x.setRule(0, 1), 0);
        insert(0, '1', 1);
        insert(1, '2', 2);
        insert(2, '.', 3);
        insert(3, '3', 4);
        due.answer("2: matchLength(0, 1, 0)", x.matchLength(0, 1, 0), 2);
        due.answer("2: segment(0, 1)", x.segment(0, 1), 2);
        due.answer("2: looksAt(0, 0)", x.looksAt(0, 0), 4);
        due.answer("2: erase(2, 1)", x.erase(2, 1), 3);
        due.answer("2: work(0)", x.work(0), 2);
        due.answer("2: undo()", x.undo(), 4);
    }

    private static void alternativesAndException() {
        x = new BoundaryAnalyzer();
        type('(', 1);
        type('A', 2);
        type('|', 3);
        type('C', 4);
        type(')', 5);
        type('+', 6);
        type('D', 7);
        type('?', 8);
        due.answer("3: setRule(2, 0)", x.setRule(2, 0), 0);
        due.answer("3: clearPattern()", x.clearPattern(), 8);
        type('a', 1);
        due.answer("3: addException()", x.addException(), 1);
        insert(0, 'a', 1);
    }

    private static void emptyTextAndErrors() {
        x = new BoundaryAnalyzer();
        due.answer("4: setRule(0, 0)", x.setRule(0, 0), 0);
        due.answer("4: value(0)", x.value(0), 0);
        due.answer("4: boundaryAt(0, 0)", x.boundaryAt(0, 0), 1);
        due.answer("4: next(0, 0)", x.next(0, 0), -5);
        due.answer("4: segmentCount(2)", x.segmentCount(2), 0);
        due.answer("4: longest(1)", x.longest(1), -5);
        type('A', 1);
        type('/', 2);
        due.answer("4: setRule(3, 0)", x.setRule(3, 0), -2);
        due.answer("4: setRule(0, 0)", x.setRule(0, 0), -102);
        due.answer("4: classOf('x')", x.classOf('x'), 0);
        due.answer("4: setClass('x', 12)", x.setClass('x', 12), -2);
        due.answer("4: setClass('x', 10)", x.setClass('x', 10), 0);
        insert(1, 'x', -1);
        due.answer("4: charAt(0)", x.charAt(0), -1);
        due.answer("4: redo()", x.redo(), -5);
    }
}
