/** Each promise of the document by itself: ordinary inputs, the edges that it names, wrong inputs. */
public final class PromiseTest {
    private static final int LOW = Integer.MIN_VALUE;
    private static final int HIGH = Integer.MAX_VALUE;

    private static final Due due = new Due();

    public static void main(String[] args) {
        newObject();
        setClass();
        classOf();
        type();
        clearPattern();
        setRule();
        faults();
        ruleText();
        matchLength();
        matchLengthBehindLookAheads();
        addException();
        removeException();
        insert();
        erase();
        undo();
        undoHistory();
        redo();
        charAt();
        value();
        boundaryAt();
        suppression();
        suppressionByOtherClasses();
        next();
        previous();
        segmentCount();
        segment();
        longest();
        segmentsWith();
        looksAt();
        looksAtBehindChangedClasses();
        work();
        workOfEdits();
        workOfUndoAndRedo();
        due.end("PromiseTest");
    }

    // ---- helpers

    private static void same(String what, String got, String want) {
        due.holds(what + " answered " + got + ", due is " + want + ", so it", got.equals(want));
    }

    private static void works(String what, BoundaryAnalyzer x, int zero, int one, int two) {
        due.answer(what + ": work(0)", x.work(0), zero);
        due.answer(what + ": work(1)", x.work(1), one);
        due.answer(what + ": work(2)", x.work(2), two);
    }

    // ---- promise 1

    private static void newObject() {
        BoundaryAnalyzer x = Make.fresh();
        for (int what = 0; what <= 4; what++) {
            due.answer("new: value(" + what + ")", x.value(what), 0);
        }
        for (int kind = 0; kind < 3; kind++) {
            due.answer("new: boundaryAt(" + kind + ", 0)", x.boundaryAt(kind, 0), 1);
            due.answer("new: boundaryAt(" + kind + ", 1)", x.boundaryAt(kind, 1), -1);
            due.answer("new: work(" + kind + ")", x.work(kind), 0);
            for (int place = 0; place < 5; place++) {
                due.answer("new: ruleText", x.ruleText(kind, place, 0), -5);
            }
        }
        due.answer("new: undo()", x.undo(), -5);
        due.answer("new: redo()", x.redo(), -5);
        due.answer("new: removeException()", x.removeException(), -5);
        BoundaryAnalyzer other = Make.with("a");
        due.answer("new: another object's text", x.value(0), 0);
        due.answer("new: the other object's text", other.value(0), 1);
    }

    // ---- promise 2

    private static void setClass() {
        BoundaryAnalyzer x = Make.fresh();
        due.answer("setClass('a', 11)", x.setClass('a', 11), 0);
        due.answer("setClass('a', 0)", x.setClass('a', 0), 11);
        due.answer("setClass('a', 0) again", x.setClass('a', 0), 0);
        due.answer("setClass of 32", x.setClass((char) 32, 5), 2);
        due.answer("setClass of 126", x.setClass((char) 126, 5), 10);
        due.answer("setClass of 31", x.setClass((char) 31, 5), -2);
        due.answer("setClass of 127", x.setClass((char) 127, 5), -2);
        due.answer("setClass of 0", x.setClass((char) 0, 5), -2);
        due.answer("setClass of 65535", x.setClass((char) 65535, 5), -2);
        due.answer("setClass to -1", x.setClass('b', -1), -2);
        due.answer("setClass to 12", x.setClass('b', 12), -2);
        due.answer("setClass to the lowest", x.setClass('b', LOW), -2);
        due.answer("setClass to the highest", x.setClass('b', HIGH), -2);
        due.answer("setClass refused changes nothing", x.classOf('b'), 0);

        BoundaryAnalyzer y = Make.with("a1b");
        for (int kind = 0; kind < 3; kind++) {
            Make.ruled(y, kind, kind, "A+");
        }
        y.setClass('1', 0);
        for (int kind = 0; kind < 3; kind++) {
            same("setClass analyses kind " + kind, Make.states(y, kind), "1001");
        }
    }

    // ---- promise 3

    private static void classOf() {
        BoundaryAnalyzer x = Make.fresh();
        String[] first = {"abcdefghijklmnopqrstuvwxyzABCDEFGHIJKLMNOPQRSTUVWXYZ", "0123456789", " ", ".", ",;:",
            "!?", "'", "-", "([", ")]\"", "^~`", "#$%&*+/<=>@\\_{|}"};
        int all = 0;
        for (int number = 0; number < first.length; number++) {
            for (char sign : first[number].toCharArray()) {
                due.answer("classOf('" + sign + "')", x.classOf(sign), number);
                all++;
            }
        }
        due.answer("characters with a class", all, 95);
        due.answer("classOf 31", x.classOf((char) 31), -2);
        due.answer("classOf 127", x.classOf((char) 127), -2);
        due.answer("classOf 0", x.classOf((char) 0), -2);
        due.answer("classOf 65535", x.classOf((char) 65535), -2);
        x.setClass('q', 7);
        due.answer("classOf a changed one", x.classOf('q'), 7);
        due.answer("classOf its neighbour", x.classOf('r'), 0);
    }

    // ---- promise 4

    private static void type() {
        BoundaryAnalyzer x = Make.fresh();
        char[] odd = {0, 31, 127, 255, 256, 65535, ' ', '*'};
        for (int i = 0; i < 24; i++) {
            due.answer("type, the " + i + "th", x.type(odd[i % odd.length]), i + 1);
        }
        due.answer("type, one too many", x.type('A'), -3);
        due.answer("type refused changes nothing", x.value(1), 24);
    }

    // ---- promise 5

    private static void clearPattern() {
        BoundaryAnalyzer x = Make.fresh();
        due.answer("clearPattern of nothing", x.clearPattern(), 0);
        due.answer("clearPattern", Make.typed(x, "A+B").clearPattern(), 3);
        due.answer("clearPattern leaves", x.value(1), 0);
        due.answer("clearPattern again", x.clearPattern(), 0);
        due.answer("type behind it", x.type('A'), 1);
    }

    // ---- promise 6

    private static void setRule() {
        BoundaryAnalyzer x = Make.with("ab 12");
        due.answer("setRule, empty, no rule", x.setRule(1, 1), 0);
        due.answer("setRule", Make.typed(x, "A+").setRule(1, 1), 0);
        due.answer("setRule keeps the pattern", x.value(1), 2);
        same("setRule analyses", Make.states(x, 1), "101111");
        same("setRule analyses its kind alone", Make.states(x, 0), "111111");
        due.answer("setRule in place of one", Make.typed(x, "B+").setRule(1, 1), 1);
        same("setRule analyses anew", Make.states(x, 1), "111101");
        due.answer("setRule at another place", Make.typed(x, "A+").setRule(1, 4), 0);
        same("setRule with two rules", Make.states(x, 1), "101101");
        due.answer("setRule removes", Make.typed(x, "").setRule(1, 1), 1);
        due.answer("setRule removed it", x.ruleText(1, 1, 0), -5);
        same("setRule analyses behind a removal", Make.states(x, 1), "101111");
        due.answer("setRule removes no more", x.setRule(1, 1), 0);
        int[][] bad = {{-1, 0}, {3, 0}, {0, -1}, {0, 5}, {LOW, 0}, {HIGH, 0}, {0, LOW}, {0, HIGH}};
        for (int[] at : bad) {
            due.answer("setRule(" + at[0] + ", " + at[1] + ")", Make.typed(x, "A").setRule(at[0], at[1]), -2);
            due.answer("setRule with a fault, too", Make.typed(x, "a").setRule(at[0], at[1]), -2);
            due.answer("setRule with nothing", Make.typed(x, "").setRule(at[0], at[1]), -2);
        }
        due.answer("setRule with a fault", Make.typed(x, "A**").setRule(1, 4), -102);
        due.answer("setRule refused keeps the rule", x.ruleText(1, 4, 1), '+');
        same("setRule refused keeps the boundaries", Make.states(x, 1), "101111");
    }

    private static void fault(String pattern, int want) {
        BoundaryAnalyzer x = Make.typed(Make.fresh(), pattern);
        due.answer("setRule of " + pattern, x.setRule(0, 0), want < 0 ? 0 : -100 - want);
        due.answer("ruleText of " + pattern, x.ruleText(0, 0, 0), want < 0 ? pattern.charAt(0) : -5);
    }

    private static void faults() {
        String[] fine = {"A", ".", "L*", "A|B", "(A)", "(A|B)+C?", "A/B", "A*/B*|C", "((((A))))", "((((A)(B))))((((C))))",
            "(A)*(B)+(C)?", "A/(B|C)", "ABCDEFGHIJKL........ABCD", "(AB)"};
        for (String pattern : fine) {
            fault(pattern, -1);
        }
        fault("a", 0);
        fault("M", 0);
        fault("@", 0);
        fault(" ", 0);
        fault("A ", 1);
        fault("*", 0);
        fault("+A", 0);
        fault("|A", 0);
        fault(")", 0);
        fault("/A", 0);
        fault("()", 1);
        fault("(*A)", 1);
        fault("(|A)", 1);
        fault("A)", 1);
        fault("A||B", 2);
        fault("(A|)", 3);
        fault("(A/B)", 2);
        fault("A/", 2);
        fault("A/B/", 3);
        fault("A/*", 2);
        fault("A|/B", 2);
        fault("A|*", 2);
        fault("A*+", 2);
        fault("A?*", 2);
        fault("(A)++", 4);
        fault("(", 1);
        fault("(A", 2);
        fault("(A|", 3);
        fault("A|", 2);
        fault("(A)B(", 5);
        fault("(((((", 4);
        fault("((((A)(B))(((C", 12);
        fault("((((A(", 5);
        fault("((((A))))))", 9);
        fault("A\u0000", 1);
        fault("A\uffffB", 1);
        fault("AAAAAAAAAAAAAAAAAAAAAAA(", 24);
        fault("AAAAAAAAAAAAAAAAAAAAAAA)", 23);
        fault("AAAAAAAAAAAAAAAAAAAAAA/A", -1);
    }

    // ---- promise 7

    private static void ruleText() {
        BoundaryAnalyzer x = Make.ruled(Make.fresh(), 2, 4, "(A|.)+/L");
        String pattern = "(A|.)+/L";
        for (int i = 0; i < pattern.length(); i++) {
            due.answer("ruleText(2, 4, " + i + ")", x.ruleText(2, 4, i), pattern.charAt(i));
        }
        due.answer("ruleText behind it", x.ruleText(2, 4, 8), -5);
        due.answer("ruleText far behind it", x.ruleText(2, 4, HIGH), -5);
        due.answer("ruleText(2, 4, -1)", x.ruleText(2, 4, -1), -2);
        due.answer("ruleText(2, 3, -1)", x.ruleText(2, 3, -1), -2);
        due.answer("ruleText(2, 4, lowest)", x.ruleText(2, 4, LOW), -2);
        due.answer("ruleText(2, 3, 0)", x.ruleText(2, 3, 0), -5);
        due.answer("ruleText(1, 4, 0)", x.ruleText(1, 4, 0), -5);
        due.answer("ruleText(-1, 0, 0)", x.ruleText(-1, 0, 0), -2);
        due.answer("ruleText(3, 0, 0)", x.ruleText(3, 0, 0), -2);
        due.answer("ruleText(0, -1, 0)", x.ruleText(0, -1, 0), -2);
        due.answer("ruleText(0, 5, 0)", x.ruleText(0, 5, 0), -2);
        x.clearPattern();
        x.type('B');
        due.answer("ruleText stays when the pattern changes", x.ruleText(2, 4, 0), '(');
        x.setRule(2, 4);
        due.answer("ruleText of a shorter one", x.ruleText(2, 4, 1), -5);
    }

    // ---- promise 8

    private static void length(String text, String pattern, int position, int want) {
        BoundaryAnalyzer x = Make.ruled(Make.with(text), 0, 2, pattern);
        String call = pattern + " in '" + text + "' at " + position;
        due.answer(call, x.matchLength(0, 2, position), want);
    }

    private static void matchLength() {
        BoundaryAnalyzer x = Make.ruled(Make.with("ab"), 1, 3, "A");
        due.answer("matchLength(-1, 0, 0)", x.matchLength(-1, 0, 0), -2);
        due.answer("matchLength(3, 0, 9)", x.matchLength(3, 0, 9), -2);
        due.answer("matchLength(1, -1, 0)", x.matchLength(1, -1, 0), -2);
        due.answer("matchLength(1, 5, -1)", x.matchLength(1, 5, -1), -2);
        due.answer("matchLength(1, 3, -1)", x.matchLength(1, 3, -1), -1);
        due.answer("matchLength(1, 3, 3)", x.matchLength(1, 3, 3), -1);
        due.answer("matchLength(1, 2, 3)", x.matchLength(1, 2, 3), -1);
        due.answer("matchLength(1, 3, highest)", x.matchLength(1, 3, HIGH), -1);
        due.answer("matchLength(1, 3, lowest)", x.matchLength(1, 3, LOW), -1);
        due.answer("matchLength(1, 2, 0)", x.matchLength(1, 2, 0), -5);
        due.answer("matchLength(1, 2, 2)", x.matchLength(1, 2, 2), -5);
        due.answer("matchLength(1, 3, 2)", x.matchLength(1, 3, 2), 0);
        due.answer("matchLength(1, 3, 1)", x.matchLength(1, 3, 1), 1);
        length("", "A*", 0, 0);
        length("aaa", "A*", 0, 3);
        length("aaa", "A*", 3, 0);
        length("aaa1", "A+", 1, 2);
        length("1aaa", "A*", 0, 0);
        length("aaa", "A?", 0, 1);
        length("aaa", "AA", 0, 2);
        length("aaa", "AAAA", 0, 0);
        length("a1a1a", "(AB)*", 0, 4);
        length("a1a1a", "(AB)+A", 0, 5);
        length("a1a1a", "(A|B)*", 0, 5);
        length("a1b2", "A|AB|ABA", 0, 3);
        length("a1b2", "A?B?A?B?", 1, 3);
        length("a b.c", ".*D", 0, 4);
        length("a b.c", "...", 2, 3);
        length("aaa", "((A*)*)*", 0, 3);
        length("aa11", "(A*B*)+", 0, 4);
        length("aa11 ", "(A+B?)+", 0, 3);
        length("a1a11", "((A|B)B?)*", 0, 5);
        length("aaaa", "(AAA|AA)", 0, 3);
        length("aaaaa", "(AA|AAA)*", 0, 5);
        length("a", "(A*)+", 0, 1);
        length("ab", "AA?", 0, 2);
    }

    private static void matchLengthBehindLookAheads() {
        length("12.3", "B+/D", 0, 2);
        length("12.3", "B+/D", 1, 1);
        length("12.3", "B+/D", 3, 0);
        length("123", "B+/B", 0, 2);
        length("123", "B*/B*", 0, 3);
        length("123", "B+/D?", 0, 3);
        length("123", "B+/D*B", 0, 2);
        length("a1a1", ".*/B", 0, 3);
        length("a1a1a", ".+/A", 0, 4);
        length("a", "A*/A", 0, 0);
        length("a", "A?/A?", 0, 1);
        length("ab1", "A/.*B", 0, 1);
        length("abc1", "A*/.*B", 0, 3);
        length("abc1 ", "A*/AB|AAB", 0, 2);
        length("abc12", "A*/AB|AAB|BBB", 0, 2);
        length("a b c.", "(AC?)+/D", 0, 5);
        length("aaa1", "A*/(AA)*B", 0, 3);
        length("aaaa", "A+/(AAA)+", 0, 1);
        length("a..b", "A/D+A", 0, 1);
        length("a..", "A/D+A", 0, 0);
        length("11a", "B*/A", 2, 0);
        length("1", "B/.", 0, 0);
    }

    // ---- promise 9

    private static void addException() {
        BoundaryAnalyzer x = Make.fresh();
        due.answer("addException of nothing", x.addException(), -2);
        due.answer("addException", Make.typed(x, "Mr").addException(), 1);
        due.answer("addException keeps the pattern", x.value(1), 2);
        due.answer("addException again", x.addException(), -4);
        due.answer("addException in other letters", Make.typed(x, "mr").addException(), 2);
        due.answer("addException of a beginning", Make.typed(x, "m").addException(), 3);
        due.answer("addException of 8", Make.typed(x, "abcdefgh").addException(), 4);
        due.answer("addException of 9", Make.typed(x, "abcdefghi").addException(), -2);
        due.answer("addException of 24", Make.typed(x, "abcdefghijklmnopqrstuvwx").addException(), -2);
        due.answer("addException with code 31", Make.typed(x, "a\u001f").addException(), -2);
        due.answer("addException with code 127", Make.typed(x, "a\u007f").addException(), -2);
        due.answer("addException with code 65535", Make.typed(x, "\uffff").addException(), -2);
        due.answer("addException with codes 32 and 126", Make.typed(x, " ~").addException(), 5);
        due.answer("addException of a pattern with a fault", Make.typed(x, "**").addException(), 6);
        for (int i = 7; i <= 10; i++) {
            due.answer("addException, the " + i + "th", Make.typed(x, "w" + (char) ('a' + i)).addException(), i);
        }
        due.answer("addException, full", Make.typed(x, "more").addException(), -3);
        due.answer("addException, there already, and full", Make.typed(x, "mr").addException(), -4);
        due.answer("addException, bad, and full", Make.typed(x, "").addException(), -2);
        due.answer("addException refused changes nothing", x.value(2), 10);

        BoundaryAnalyzer y = Make.with("a.b");
        int before = y.work(2);
        Make.excepting(y, "a");
        due.answer("addException does not analyse", y.work(2), before);
        same("addException suppresses", Make.states(y, 2), "1121");
    }

    // ---- promise 10

    private static void removeException() {
        BoundaryAnalyzer x = Make.fresh();
        due.answer("removeException of nothing", x.removeException(), -5);
        due.answer("removeException of none", Make.typed(x, "a").removeException(), -5);
        Make.excepting(Make.excepting(Make.excepting(x, "a"), "b"), "c");
        due.answer("removeException", Make.typed(x, "a").removeException(), 2);
        due.answer("removeException keeps the pattern", x.value(1), 1);
        due.answer("removeException again", x.removeException(), -5);
        due.answer("removeException of a longer one", Make.typed(x, "bb").removeException(), -5);
        due.answer("removeException of the empty pattern", Make.typed(x, "").removeException(), -5);
        due.answer("removeException of a long one", Make.typed(x, "abcdefghi").removeException(), -5);
        due.answer("removeException of the last", Make.typed(x, "c").removeException(), 1);
        due.answer("the other one is there", Make.typed(x, "b").addException(), -4);
        due.answer("removeException of the only one", x.removeException(), 0);
        due.answer("a removed one can be added", x.addException(), 1);

        BoundaryAnalyzer y = Make.excepting(Make.with("a.b"), "a");
        int before = y.work(2);
        y.removeException();
        due.answer("removeException does not analyse", y.work(2), before);
        same("removeException ends the suppression", Make.states(y, 2), "1111");

        BoundaryAnalyzer z = Make.fresh();
        for (char word = 'a'; word < 'k'; word++) {
            Make.excepting(z, String.valueOf(word));
        }
        due.answer("removeException of ten", Make.typed(z, "a").removeException(), 9);
        due.answer("the tenth is there", Make.typed(z, "j").addException(), -4);
        due.answer("there is room again", Make.typed(z, "k").addException(), 10);
    }

    // ---- promise 11

    private static void insert() {
        BoundaryAnalyzer x = Make.fresh();
        due.answer("insert(0)", x.insert(0, 'b'), 1);
        due.answer("insert(0) before", x.insert(0, 'a'), 2);
        due.answer("insert(2) behind", x.insert(2, 'd'), 3);
        due.answer("insert(2) between", x.insert(2, 'c'), 4);
        same("insert", Make.text(x), "abcd");
        due.answer("insert(-1)", x.insert(-1, 'x'), -1);
        due.answer("insert(5)", x.insert(5, 'x'), -1);
        due.answer("insert(lowest)", x.insert(LOW, 'x'), -1);
        due.answer("insert(highest)", x.insert(HIGH, 'x'), -1);
        due.answer("insert(5) of a bad one", x.insert(5, (char) 31), -1);
        due.answer("insert of 31", x.insert(0, (char) 31), -2);
        due.answer("insert of 127", x.insert(0, (char) 127), -2);
        due.answer("insert of 65535", x.insert(0, (char) 65535), -2);
        due.answer("insert of 32", x.insert(4, (char) 32), 5);
        due.answer("insert of 126", x.insert(5, (char) 126), 6);
        same("insert refused changes nothing", Make.text(x), "abcd ~");
        for (int i = 7; i <= 100; i++) {
            due.answer("insert of the " + i + "th", x.insert(3, 'y'), i);
        }
        due.answer("insert, full", x.insert(100, 'y'), -3);
        due.answer("insert, full, at 0", x.insert(0, 'y'), -3);
        due.answer("insert, full, and bad", x.insert(0, (char) 0), -2);
        due.answer("insert, full, and behind", x.insert(101, 'y'), -1);
        due.answer("insert, full, changes nothing", x.value(0), 100);
        due.answer("insert, full: the history", x.value(3), 30);
    }

    // ---- promise 12

    private static void erase() {
        BoundaryAnalyzer x = Make.with("abcdef");
        due.answer("erase(1, 2)", x.erase(1, 2), 4);
        same("erase", Make.text(x), "adef");
        due.answer("erase(3, 1)", x.erase(3, 1), 3);
        due.answer("erase(-1, 1)", x.erase(-1, 1), -1);
        due.answer("erase(3, 1)", x.erase(3, 1), -1);
        due.answer("erase(3, 0)", x.erase(3, 0), -1);
        due.answer("erase(lowest, 1)", x.erase(LOW, 1), -1);
        due.answer("erase(highest, highest)", x.erase(HIGH, HIGH), -1);
        due.answer("erase(0, 0)", x.erase(0, 0), -2);
        due.answer("erase(0, -1)", x.erase(0, -1), -2);
        due.answer("erase(0, 4)", x.erase(0, 4), -2);
        due.answer("erase(2, 2)", x.erase(2, 2), -2);
        due.answer("erase(2, highest)", x.erase(2, HIGH), -2);
        due.answer("erase(2, lowest)", x.erase(2, LOW), -2);
        same("erase refused changes nothing", Make.text(x), "ade");
        due.answer("erase refused: the history", x.value(3), 8);
        due.answer("erase(0, 3)", x.erase(0, 3), 0);
        due.answer("erase of nothing", x.erase(0, 1), -1);
        due.answer("boundary of the empty text", x.boundaryAt(0, 0), 1);
        due.answer("segments of the empty text", x.segmentCount(0), 0);
    }

    // ---- promise 13

    private static void undo() {
        BoundaryAnalyzer x = Make.with("abcd");
        x.erase(1, 2);
        due.answer("undo() of an erasure", x.undo(), 4);
        same("undo() of an erasure", Make.text(x), "abcd");
        due.answer("undo() of an insertion", x.undo(), 3);
        same("undo() of an insertion", Make.text(x), "abc");
        due.answer("undo(): to be redone", x.value(4), 2);
        due.answer("undo() again", x.undo(), 2);
        due.answer("undo() and again", x.undo(), 1);
        due.answer("undo() of the first one", x.undo(), 0);
        same("undo() of all", Make.text(x), "");
        due.answer("undo() of none", x.undo(), -5);
        due.answer("undo() of none changes nothing", x.value(4), 5);
        x.insert(0, 'z');
        due.answer("insert() ends what can be redone", x.value(4), 0);
        due.answer("insert() ends redo()", x.redo(), -5);

        BoundaryAnalyzer y = Make.with("ab");
        y.undo();
        y.insert(9, 'x');
        y.erase(0, 9);
        due.answer("what is refused does not end it", y.value(4), 1);
        y.erase(0, 1);
        due.answer("erase() ends what can be redone", y.value(4), 0);

        BoundaryAnalyzer z = Make.with("a");
        z.insert(0, 'b');
        z.undo();
        z.setClass('a', 5);
        Make.ruled(z, 0, 0, "F");
        Make.excepting(z, "x");
        due.answer("classes, rules and exceptions do not end it", z.value(4), 1);
        due.answer("redo() behind them", z.redo(), 0);
        due.answer("undo() leaves classes", z.classOf('a'), 5);
    }

    private static void undoHistory() {
        BoundaryAnalyzer x = Make.fresh();
        for (int i = 0; i < 30; i++) {
            x.insert(i, (char) ('A' + i));
        }
        due.answer("a history of 30", x.value(3), 30);
        x.insert(30, 'z');
        due.answer("a history of 30 of 31", x.value(3), 30);
        x.erase(0, 31);
        due.answer("a history of 30 of 32", x.value(3), 30);
        for (int i = 29; i >= 0; i--) {
            due.answer("undo() of 30", x.undo(), i);
        }
        due.answer("undo() of a dropped one", x.undo(), -5);
        same("undo() of 30", Make.text(x), "AB");
        for (int i = 29; i >= 0; i--) {
            due.answer("redo() of 30", x.redo(), i);
        }
        due.answer("redo() of 30: the history", x.value(3), 30);
        due.answer("redo() of 30: the text", x.value(0), 0);
        due.answer("redo() of one more", x.redo(), -5);
        due.answer("undo() of a long erasure", x.undo(), 29);
        due.answer("undo() of a long erasure: the text", x.value(0), 31);
        x.insert(31, 'y');
        due.answer("a new edit behind undo()", x.value(3), 30);
        x.insert(32, 'x');
        due.answer("the oldest one is dropped", x.value(3), 30);
        while (x.value(3) > 0) {
            x.undo();
        }
        same("all undone but the dropped ones", Make.text(x), "ABC");

        BoundaryAnalyzer full = Make.with("x".repeat(100));
        full.erase(0, 100);
        due.answer("undo() of the whole text", full.undo(), 29);
        due.answer("undo() of the whole text: its length", full.value(0), 100);
        due.answer("redo() of the whole text", full.redo(), 0);
        due.answer("redo() of the whole text: its length", full.value(0), 0);
    }

    // ---- promise 14

    private static void redo() {
        BoundaryAnalyzer x = Make.with("abc");
        due.answer("redo() of none", x.redo(), -5);
        x.erase(0, 2);
        x.undo();
        x.undo();
        due.answer("redo() of an insertion", x.redo(), 1);
        same("redo() of an insertion", Make.text(x), "abc");
        due.answer("redo(): to be undone", x.value(3), 3);
        due.answer("redo() of an erasure", x.redo(), 0);
        same("redo() of an erasure", Make.text(x), "c");
        due.answer("redo() of no more", x.redo(), -5);
        due.answer("redo() can be undone", x.undo(), 3);
        same("redo() undone", Make.text(x), "abc");
        due.answer("and redone", x.redo(), 0);
        same("and redone", Make.text(x), "c");
    }

    // ---- promise 15

    private static void charAt() {
        BoundaryAnalyzer x = Make.with("a ~");
        due.answer("charAt(0)", x.charAt(0), 'a');
        due.answer("charAt(1)", x.charAt(1), 32);
        due.answer("charAt(2)", x.charAt(2), 126);
        due.answer("charAt(3)", x.charAt(3), -1);
        due.answer("charAt(-1)", x.charAt(-1), -1);
        due.answer("charAt(99)", x.charAt(99), -1);
        due.answer("charAt(lowest)", x.charAt(LOW), -1);
        due.answer("charAt(highest)", x.charAt(HIGH), -1);
        x.erase(1, 2);
        due.answer("charAt(1) of one", x.charAt(1), -1);
    }

    // ---- promise 16

    private static void value() {
        BoundaryAnalyzer x = Make.excepting(Make.with("abcde"), "aa");
        Make.excepting(x, "bbb");
        x.undo();
        x.undo();
        due.answer("value(0)", x.value(0), 3);
        due.answer("value(1)", x.value(1), 3);
        due.answer("value(2)", x.value(2), 2);
        due.answer("value(3)", x.value(3), 3);
        due.answer("value(4)", x.value(4), 2);
        due.answer("value(5)", x.value(5), -2);
        due.answer("value(-1)", x.value(-1), -2);
        due.answer("value(lowest)", x.value(LOW), -2);
        due.answer("value(highest)", x.value(HIGH), -2);
    }

    // ---- promise 17

    private static void boundaryAt() {
        BoundaryAnalyzer x = Make.ruled(Make.with("ab cd"), 1, 0, "A+");
        same("boundaryAt by a rule", Make.states(x, 1), "101101");
        same("boundaryAt without rules", Make.states(x, 0), "111111");
        due.answer("boundaryAt(-1, 0)", x.boundaryAt(-1, 0), -2);
        due.answer("boundaryAt(3, 0)", x.boundaryAt(3, 0), -2);
        due.answer("boundaryAt(3, 99)", x.boundaryAt(3, 99), -2);
        due.answer("boundaryAt(0, -1)", x.boundaryAt(0, -1), -1);
        due.answer("boundaryAt(0, 6)", x.boundaryAt(0, 6), -1);
        due.answer("boundaryAt(0, lowest)", x.boundaryAt(0, LOW), -1);
        due.answer("boundaryAt(0, highest)", x.boundaryAt(0, HIGH), -1);
        Make.ruled(x, 1, 1, "AAC");
        same("the longest rule makes the segment", Make.states(x, 1), "100101");
        Make.ruled(x, 1, 2, "A.*/.");
        same("a look-ahead is no part of it", Make.states(x, 1), "100011");
    }

    private static void suppressed(String text, String word, String want) {
        same("exception " + word + " in '" + text + "'", Make.states(Make.excepting(Make.with(text), word), 2), want);
    }

    private static void suppression() {
        suppressed("Dr. No", "Dr", "1112211");
        suppressed("Dr.  N", "Dr", "1112221");
        suppressed("Dr.", "Dr", "1111");
        suppressed("Dr. ", "Dr", "11121");
        suppressed("dr. N", "Dr", "111111");
        suppressed("xDr. N", "Dr", "1111111");
        suppressed("1Dr. N", "Dr", "1111221");
        suppressed(" Dr. N", "Dr", "1111221");
        suppressed("Drs. N", "Dr", "1111111");
        suppressed("Dr.. N", "Dr", "1112111");
        suppressed("Dr . N", "Dr", "1111111");
        suppressed("Dr! N", "Dr", "111111");
        suppressed("Dr. .N", "Dr", "1112211");
        suppressed("Dr", "Dr", "111");
        suppressed(". a", "Dr", "1111");
        suppressed("abcdefgh. N", "abcdefgh", "111111111221");
        suppressed("xabcdefgh. N", "abcdefgh", "1111111111111");
        suppressed("a1. N", "a1", "111111");
        suppressed("a.b. N", "b", "1111221");
        suppressed("a.b. N", "a", "1121111");

        BoundaryAnalyzer x = Make.excepting(Make.with("Dr. No"), "Dr");
        same("kind 0 is not suppressed", Make.states(x, 0), "1111111");
        same("kind 1 is not suppressed", Make.states(x, 1), "1111111");
        Make.ruled(x, 2, 0, "A+D");
        same("what is no raw boundary is not suppressed", Make.states(x, 2), "1002211");
        Make.excepting(x, "No");
        Make.append(x, ".1");
        same("two exceptions", Make.states(x, 2), "100220021");
    }

    private static void suppressionByOtherClasses() {
        BoundaryAnalyzer x = Make.excepting(Make.with("ab1..x"), "ab");
        x.setClass('1', 0);
        Make.excepting(x, "ab1");
        same("a digit of class A is in a word", Make.states(x, 2), "1111211");
        x.setClass('.', 2);
        same("a '.' of class C goes on", Make.states(x, 2), "1111221");
        x.setClass('b', 1);
        same("a word is of class A", Make.states(x, 2), "1111111");
        x.setClass('b', 0);
        x.setClass('.', 0);
        same("a '.' of class A", Make.states(x, 2), "1111211");
        Make.excepting(x, "ab1.");
        same("a '.' of class A in a word", Make.states(x, 2), "1111221");
        BoundaryAnalyzer y = Make.excepting(Make.with("a._b"), "a");
        same("a '_' is not of class C", Make.states(y, 2), "11211");
        y.setClass('_', 2);
        same("a '_' of class C", Make.states(y, 2), "11221");
        y.setClass('_', 0);
        y.setClass('b', 3);
        same("a 'b' of class D is no '.'", Make.states(Make.append(y, "c"), 2), "112111");
    }

    // ---- promise 18

    private static void next() {
        BoundaryAnalyzer x = Make.ruled(Make.excepting(Make.with("Dr. No ok"), "Dr"), 2, 0, "A+D?C*");
        same("the states", Make.states(x, 2), "1000200101");
        due.answer("next(2, 0)", x.next(2, 0), 7);
        due.answer("next(2, 4)", x.next(2, 4), 7);
        due.answer("next(2, 7)", x.next(2, 7), 9);
        due.answer("next(2, 8)", x.next(2, 8), 9);
        due.answer("next(2, 9)", x.next(2, 9), -5);
        due.answer("next(1, 0)", x.next(1, 0), 1);
        due.answer("next(2, 10)", x.next(2, 10), -1);
        due.answer("next(2, -1)", x.next(2, -1), -1);
        due.answer("next(2, highest)", x.next(2, HIGH), -1);
        due.answer("next(2, lowest)", x.next(2, LOW), -1);
        due.answer("next(3, -1)", x.next(3, -1), -2);
        due.answer("next(-1, 0)", x.next(-1, 0), -2);
        due.answer("next of the empty text", Make.fresh().next(2, 0), -5);
    }

    // ---- promise 19

    private static void previous() {
        BoundaryAnalyzer x = Make.ruled(Make.excepting(Make.with("Dr. No ok"), "Dr"), 2, 0, "A+D?C*");
        due.answer("previous(2, 9)", x.previous(2, 9), 7);
        due.answer("previous(2, 8)", x.previous(2, 8), 7);
        due.answer("previous(2, 7)", x.previous(2, 7), 0);
        due.answer("previous(2, 1)", x.previous(2, 1), 0);
        due.answer("previous(2, 0)", x.previous(2, 0), -5);
        due.answer("previous(1, 5)", x.previous(1, 5), 4);
        due.answer("previous(2, 10)", x.previous(2, 10), -1);
        due.answer("previous(2, -1)", x.previous(2, -1), -1);
        due.answer("previous(2, highest)", x.previous(2, HIGH), -1);
        due.answer("previous(2, lowest)", x.previous(2, LOW), -1);
        due.answer("previous(3, -1)", x.previous(3, -1), -2);
        due.answer("previous(-1, 0)", x.previous(-1, 0), -2);
        due.answer("previous of the empty text", Make.fresh().previous(2, 0), -5);
    }

    // ---- promise 20

    private static void segmentCount() {
        BoundaryAnalyzer x = Make.ruled(Make.excepting(Make.with("Dr. No ok"), "Dr"), 2, 0, "A+D?C*");
        due.answer("segmentCount(2)", x.segmentCount(2), 2);
        due.answer("segmentCount(1)", x.segmentCount(1), 9);
        due.answer("segmentCount(3)", x.segmentCount(3), -2);
        due.answer("segmentCount(-1)", x.segmentCount(-1), -2);
        due.answer("segmentCount(highest)", x.segmentCount(HIGH), -2);
        due.answer("segmentCount of the empty text", Make.fresh().segmentCount(1), 0);
        due.answer("segmentCount of a full text", Make.with("x".repeat(100)).segmentCount(1), 100);
    }

    // ---- promise 21

    private static void segment() {
        BoundaryAnalyzer x = Make.ruled(Make.excepting(Make.with("Dr. No ok"), "Dr"), 2, 0, "A+D?C*");
        due.answer("segment(2, 0)", x.segment(2, 0), 0);
        due.answer("segment(2, 1)", x.segment(2, 1), 7);
        due.answer("segment(2, 2)", x.segment(2, 2), -5);
        due.answer("segment(2, highest)", x.segment(2, HIGH), -5);
        due.answer("segment(2, -1)", x.segment(2, -1), -2);
        due.answer("segment(2, lowest)", x.segment(2, LOW), -2);
        due.answer("segment(1, 8)", x.segment(1, 8), 8);
        due.answer("segment(1, 9)", x.segment(1, 9), -5);
        due.answer("segment(3, 0)", x.segment(3, 0), -2);
        due.answer("segment(-1, 0)", x.segment(-1, 0), -2);
        due.answer("segment of the empty text", Make.fresh().segment(0, 0), -5);
    }

    // ---- promise 22

    private static void longest() {
        BoundaryAnalyzer x = Make.ruled(Make.with("a bb cc d"), 1, 0, "A+");
        due.answer("longest(1), the first of two", x.longest(1), 2);
        due.answer("longest(0)", x.longest(0), 0);
        Make.append(x, "dd");
        due.answer("longest(1), the last", x.longest(1), 8);
        due.answer("longest(3)", x.longest(3), -2);
        due.answer("longest(-1)", x.longest(-1), -2);
        due.answer("longest of the empty text", Make.fresh().longest(0), -5);
        BoundaryAnalyzer y = Make.ruled(Make.excepting(Make.with("aaa b. ccc"), "b"), 2, 0, "A+D?");
        due.answer("longest(2), joined by an exception", y.longest(2), 4);
    }

    // ---- promise 23

    private static void segmentsWith() {
        BoundaryAnalyzer x = Make.ruled(Make.with("a1 b2b2 3!"), 1, 0, "(A|B)+");
        due.answer("segmentsWith(1, 0)", x.segmentsWith(1, 0), 2);
        due.answer("segmentsWith(1, 1)", x.segmentsWith(1, 1), 3);
        due.answer("segmentsWith(1, 2)", x.segmentsWith(1, 2), 2);
        due.answer("segmentsWith(1, 5)", x.segmentsWith(1, 5), 1);
        due.answer("segmentsWith(1, 11)", x.segmentsWith(1, 11), 0);
        due.answer("segmentsWith(0, 0)", x.segmentsWith(0, 0), 3);
        due.answer("segmentsWith(1, 12)", x.segmentsWith(1, 12), -2);
        due.answer("segmentsWith(1, -1)", x.segmentsWith(1, -1), -2);
        due.answer("segmentsWith(3, 0)", x.segmentsWith(3, 0), -2);
        due.answer("segmentsWith(-1, 0)", x.segmentsWith(-1, 0), -2);
        due.answer("segmentsWith(0, highest)", x.segmentsWith(0, HIGH), -2);
        due.answer("segmentsWith of the empty text", Make.fresh().segmentsWith(0, 0), 0);
        BoundaryAnalyzer y = Make.excepting(Make.with("a. b"), "a");
        due.answer("segmentsWith(2, 0), joined by an exception", y.segmentsWith(2, 0), 2);
        due.answer("segmentsWith(2, 2), joined by an exception", y.segmentsWith(2, 2), 1);
        y.setClass('b', 2);
        due.answer("segmentsWith(2, 2) behind setClass", y.segmentsWith(2, 2), 1);
        due.answer("segmentsWith(0, 2) behind setClass", y.segmentsWith(0, 2), 2);
    }

    // ---- promise 24

    private static void looked(String text, String pattern, String want) {
        same(pattern + " looks in '" + text + "'", Make.looks(Make.ruled(Make.with(text), 0, 0, pattern), 0), want);
    }

    private static void looksAt() {
        BoundaryAnalyzer x = Make.with("ab1");
        same("looksAt without rules", Make.looks(x, 0), "1 1 1");
        due.answer("looksAt(-1, 0)", x.looksAt(-1, 0), -2);
        due.answer("looksAt(3, 3)", x.looksAt(3, 3), -2);
        due.answer("looksAt(0, -1)", x.looksAt(0, -1), -1);
        due.answer("looksAt(0, 3)", x.looksAt(0, 3), -1);
        due.answer("looksAt(0, highest)", x.looksAt(0, HIGH), -1);
        due.answer("looksAt(0, lowest)", x.looksAt(0, LOW), -1);
        due.answer("looksAt of the empty text", Make.fresh().looksAt(0, 0), -1);
        looked("ab1", "A", "2 2 1");
        looked("ab1", "A+", "3 2 1");
        looked("ab", "A+", "3 2");
        looked("ab", "A", "2 2");
        looked("ab", "B", "1 1");
        looked("12.3", "B+/D", "4 3 1 2");
        looked("12.3", "B*/D", "4 3 2 2");
        looked("ab1", "A*/B", "4 3 2");
        looked("ab1a", "A?/B?", "2 3 2 2");
        looked("a1a1", "(AB)*A", "5 1 3 1");
        looked("a1aa", "(AB)*A", "4 1 2 2");
        looked("aaa", ".*D", "4 3 2");
        looked("a11", "AB|ABC", "3 1 1");
        looked("a11", "A|B", "2 2 2");
        looked("a1 ", "A/.*", "4 1 1");
        looked("ab", "(A|B)?/C", "2 2");
        BoundaryAnalyzer y = Make.ruled(Make.ruled(Make.with("ab1 "), 0, 0, "A"), 0, 4, "A+B");
        same("two rules look as far as either", Make.looks(y, 0), "4 3 1 1");
        same("another kind looks for itself", Make.looks(y, 1), "1 1 1 1");
    }

    private static void looksAtBehindChangedClasses() {
        BoundaryAnalyzer x = Make.ruled(Make.with("^a"), 0, 0, "KA");
        x.setClass('^', 0);
        x.setClass('~', 0);
        x.setClass('`', 0);
        same("a class without characters", Make.looks(x, 0), "1 1");
        x.setClass('a', 10);
        same("a class with other ones", Make.looks(x, 0), "1 2");
    }

    // ---- promise 25

    private static void work() {
        BoundaryAnalyzer x = Make.fresh();
        works("new", x, 0, 0, 0);
        due.answer("work(3)", x.work(3), -2);
        due.answer("work(-1)", x.work(-1), -2);
        due.answer("work(lowest)", x.work(LOW), -2);
        Make.append(x, "ab cd");
        works("an insertion", x, 1, 1, 1);
        Make.ruled(x, 1, 0, "A+");
        works("a rule", x, 1, 3, 1);
        Make.ruled(x, 1, 0, "A+");
        works("the same rule", x, 1, 3, 1);
        x.setClass('#', 3);
        works("a class", x, 5, 3, 5);
        x.insert(0, 'x');
        works("an edit", x, 1, 1, 1);
        x.setClass('#', 3);
        works("no other class", x, 1, 1, 1);
        Make.typed(x, "").setRule(2, 2);
        works("no rule removed", x, 1, 1, 1);
        Make.typed(x, "(").setRule(2, 2);
        works("a faulty rule", x, 1, 1, 1);
        x.insert(0, (char) 200);
        works("a refused edit", x, 1, 1, 1);
        Make.typed(x, "").setRule(1, 0);
        works("a rule removed", x, 1, 6, 1);
        Make.excepting(x, "abc");
        works("an exception", x, 1, 6, 1);
        BoundaryAnalyzer y = Make.excepting(Make.with("a. b"), "a");
        y.setClass('#', 3);
        due.answer("segmentCount(2) less what is suppressed", y.segmentCount(2), 2);
        works("suppressed ones are analysed, too", y, 4, 4, 4);
        BoundaryAnalyzer z = Make.fresh();
        z.setClass('a', 1);
        works("a class and no text", z, 0, 0, 0);
    }

    private static void workOfEdits() {
        BoundaryAnalyzer x = Make.ruled(Make.with("ab cd ef"), 1, 0, "A+");
        x.insert(4, 'x');
        works("an insertion into a word", x, 1, 1, 1);
        same("an insertion into a word", Make.states(x, 1), "1011001101");
        x.insert(2, 'y');
        due.answer("an insertion behind a word that looked there", x.work(1), 1);
        x.insert(2, ' ');
        due.answer("a word is split", x.work(1), 3);
        x.insert(3, ' ');
        due.answer("a blank before a word", x.work(1), 1);
        x.erase(2, 2);
        due.answer("a word is joined", x.work(1), 1);
        x.erase(0, 3);
        due.answer("a word is erased", x.work(1), 0);
        x.erase(0, 1);
        due.answer("a blank is erased", x.work(1), 0);
        same("the text", Make.text(x), "cxd ef");
        x.erase(3, 1);
        due.answer("two words are joined", x.work(1), 1);
        x.erase(0, 5);
        due.answer("all is erased", x.work(1), 0);

        BoundaryAnalyzer y = Make.ruled(Make.with("aa bb cc"), 1, 0, ".+D");
        y.insert(8, 'c');
        due.answer("all looked at the end", y.work(1), 9);
        y.insert(8, '.');
        due.answer("one segment to the dot", y.work(1), 1);
        same("one segment to the dot", Make.states(y, 1), "10000000011");
        y.erase(8, 1);
        due.answer("the dot is erased", y.work(1), 8);
        BoundaryAnalyzer z = Make.ruled(Make.with("111a1"), 0, 0, "BB/A");
        same("with a look-ahead", Make.states(z, 0), "110111");
        z.erase(3, 1);
        due.answer("the look-ahead is erased", z.work(0), 2);
        z.insert(3, 'a');
        due.answer("the look-ahead is back", z.work(0), 2);
    }

    private static void workOfUndoAndRedo() {
        BoundaryAnalyzer x = Make.ruled(Make.with("ab cd ef"), 1, 0, "A+");
        x.erase(2, 4);
        works("an erasure", x, 0, 1, 0);
        x.undo();
        works("undo() of an erasure", x, 4, 5, 4);
        same("undo() of an erasure", Make.states(x, 1), "101101101");
        x.redo();
        works("redo() of an erasure", x, 0, 1, 0);
        x.undo();
        x.undo();
        works("undo() of an insertion", x, 0, 1, 0);
        x.redo();
        works("redo() of an insertion", x, 1, 1, 1);
        x.redo();
        x.redo();
        works("no redo()", x, 0, 1, 0);
    }
}
