import java.util.Arrays;

/**
 * An analyser for boundaries in text by rules that can be changed.
 *
 * <p>The document that it keeps to numbers its promises; a method here is one of them. Every object
 * that is ever needed is made by the constructor, so that calls make none.
 */
public final class BoundaryAnalyzer {
    /** There is no such position. */
    public static final int NO_SUCH_POSITION = -1;
    /** Another argument is out of range. */
    public static final int BAD_VALUE = -2;
    /** There is no more room. */
    public static final int FULL = -3;
    /** There is such a thing already. */
    public static final int NOT_NEW = -4;
    /** There is no such thing; not an error. */
    public static final int NONE = -5;

    private static final int KINDS = 3;
    private static final int PLACES = 5;
    private static final int CLASSES = 12;
    private static final int FIRST_CODE = 32;
    private static final int LAST_CODE = 126;
    private static final int PATTERN_ROOM = 24;
    private static final int DEEPEST = 4;
    private static final int TEXT_ROOM = 100;
    private static final int WORD_ROOM = 8;
    private static final int EXCEPTIONS_ROOM = 10;
    private static final int HISTORY_ROOM = 30;

    private static final int CLASS_A = 0;
    private static final int CLASS_C = 2;
    private static final int NO_CLASS = -1;
    /** The kind whose raw boundaries exceptions suppress. */
    private static final int KIND_WITH_EXCEPTIONS = 2;

    private static final int NO_FAULT = -1;
    private static final int FAULTY = -100;

    private static final int NO_BOUNDARY = 0;
    private static final int BOUNDARY = 1;
    private static final int SUPPRESSED = 2;

    private final Text text;
    private final Row pattern;
    private final Kind[] kinds;
    private final RuleBuilder builder;
    private final Row[] exceptions;
    private int exceptionCount;
    private final History history;

    /** Promise 1. */
    public BoundaryAnalyzer() {
        text = new Text();
        pattern = new Row(PATTERN_ROOM);
        kinds = new Kind[KINDS];
        for (int kind = 0; kind < KINDS; kind++) {
            kinds[kind] = new Kind();
        }
        builder = new RuleBuilder();
        exceptions = new Row[EXCEPTIONS_ROOM];
        for (int i = 0; i < EXCEPTIONS_ROOM; i++) {
            exceptions[i] = new Row(WORD_ROOM);
        }
        history = new History();
    }

    // ---- classes, patterns, rules

    /** Promise 2. */
    public int setClass(char character, int number) {
        if (!isCharacter(character) || !isClass(number)) {
            return BAD_VALUE;
        }
        int before = text.classOfCharacter(character);
        if (before != number) {
            text.changeClass(character, number);
            for (int kind = 0; kind < KINDS; kind++) {
                kinds[kind].analyseAll(text);
            }
        }
        return before;
    }

    /** Promise 3. */
    public int classOf(char character) {
        return isCharacter(character) ? text.classOfCharacter(character) : BAD_VALUE;
    }

    /** Promise 4. */
    public int type(char character) {
        if (pattern.size >= PATTERN_ROOM) {
            return FULL;
        }
        pattern.append(character);
        return pattern.size;
    }

    /** Promise 5. */
    public int clearPattern() {
        int before = pattern.size;
        pattern.size = 0;
        return before;
    }

    /** Promise 6. */
    public int setRule(int kind, int place) {
        if (!isKind(kind) || !isPlace(place)) {
            return BAD_VALUE;
        }
        if (pattern.size > 0) {
            int fault = faultOf(pattern);
            if (fault != NO_FAULT) {
                return FAULTY - fault;
            }
        }
        Rule rule = kinds[kind].rules[place];
        boolean wasSet = rule.isSet();
        if (wasSet || pattern.size > 0) {
            rule.signs.become(pattern, 0, pattern.size);
            builder.build(rule);
            kinds[kind].analyseAll(text);
        }
        return wasSet ? 1 : 0;
    }

    /** Promise 7. */
    public int ruleText(int kind, int place, int i) {
        if (!isKind(kind) || !isPlace(place) || i < 0) {
            return BAD_VALUE;
        }
        Row signs = kinds[kind].rules[place].signs;
        return i < signs.size ? signs.at(i) : NONE;
    }

    /** Promise 8. */
    public int matchLength(int kind, int place, int position) {
        if (!isKind(kind) || !isPlace(place)) {
            return BAD_VALUE;
        }
        if (!isPosition(position)) {
            return NO_SUCH_POSITION;
        }
        Rule rule = kinds[kind].rules[place];
        if (!rule.isSet()) {
            return NONE;
        }
        rule.walk(text, position);
        return rule.matched;
    }

    /** Promise 9. */
    public int addException() {
        if (!isExceptionWord(pattern)) {
            return BAD_VALUE;
        }
        if (exceptionAt(pattern, 0, pattern.size) != NONE) {
            return NOT_NEW;
        }
        if (exceptionCount >= EXCEPTIONS_ROOM) {
            return FULL;
        }
        exceptions[exceptionCount].become(pattern, 0, pattern.size);
        exceptionCount++;
        return exceptionCount;
    }

    /** Promise 10. */
    public int removeException() {
        int found = exceptionAt(pattern, 0, pattern.size);
        if (found == NONE) {
            return NONE;
        }
        // The order of exceptions is never seen, so the last one may change places with it.
        exceptionCount--;
        Row removed = exceptions[found];
        exceptions[found] = exceptions[exceptionCount];
        exceptions[exceptionCount] = removed;
        return exceptionCount;
    }

    // ---- the text

    /** Promise 11. */
    public int insert(int position, char character) {
        if (!isPosition(position)) {
            return NO_SUCH_POSITION;
        }
        if (!isCharacter(character)) {
            return BAD_VALUE;
        }
        if (text.signs.size >= TEXT_ROOM) {
            return FULL;
        }
        Edit edit = history.begin();
        edit.inserts = true;
        edit.position = position;
        edit.signs.size = 0;
        edit.signs.append(character);
        carryOut(edit, true);
        return text.signs.size;
    }

    /** Promise 12. */
    public int erase(int position, int n) {
        if (!isPositionOfCharacter(position)) {
            return NO_SUCH_POSITION;
        }
        if (n < 1 || n > text.signs.size - position) {
            return BAD_VALUE;
        }
        Edit edit = history.begin();
        edit.inserts = false;
        edit.position = position;
        edit.signs.become(text.signs, position, n);
        carryOut(edit, false);
        return text.signs.size;
    }

    /** Promise 13. */
    public int undo() {
        if (history.undoable <= 0) {
            return NONE;
        }
        Edit edit = history.stepBack();
        carryOut(edit, !edit.inserts);
        return history.undoable;
    }

    /** Promise 14. */
    public int redo() {
        if (history.redoable <= 0) {
            return NONE;
        }
        Edit edit = history.stepForward();
        carryOut(edit, edit.inserts);
        return history.redoable;
    }

    /** Promise 15. */
    public int charAt(int position) {
        return isPositionOfCharacter(position) ? text.signs.at(position) : NO_SUCH_POSITION;
    }

    /** Promise 16. */
    public int value(int what) {
        switch (what) {
            case 0:
                return text.signs.size;
            case 1:
                return pattern.size;
            case 2:
                return exceptionCount;
            case 3:
                return history.undoable;
            case 4:
                return history.redoable;
            default:
                return BAD_VALUE;
        }
    }

    // ---- boundaries

    /** Promise 17. */
    public int boundaryAt(int kind, int position) {
        if (!isKind(kind)) {
            return BAD_VALUE;
        }
        return isPosition(position) ? stateAt(kind, position) : NO_SUCH_POSITION;
    }

    /** Promise 18. */
    public int next(int kind, int position) {
        if (!isKind(kind)) {
            return BAD_VALUE;
        }
        return isPosition(position) ? boundaryBehind(kind, position) : NO_SUCH_POSITION;
    }

    /** Promise 19. */
    public int previous(int kind, int position) {
        if (!isKind(kind)) {
            return BAD_VALUE;
        }
        if (!isPosition(position)) {
            return NO_SUCH_POSITION;
        }
        for (int p = position - 1; p >= 0; p--) {
            if (stateAt(kind, p) == BOUNDARY) {
                return p;
            }
        }
        return NONE;
    }

    /** Promise 20. */
    public int segmentCount(int kind) {
        if (!isKind(kind)) {
            return BAD_VALUE;
        }
        int count = 0;
        for (int p = 1; p <= text.signs.size; p++) {
            if (stateAt(kind, p) == BOUNDARY) {
                count++;
            }
        }
        return count;
    }

    /** Promise 21. */
    public int segment(int kind, int k) {
        if (!isKind(kind) || k < 0) {
            return BAD_VALUE;
        }
        int left = k;
        for (int p = 0; p < text.signs.size; p++) {
            if (stateAt(kind, p) == BOUNDARY) {
                if (left == 0) {
                    return p;
                }
                left--;
            }
        }
        return NONE;
    }

    /** Promise 22. */
    public int longest(int kind) {
        if (!isKind(kind)) {
            return BAD_VALUE;
        }
        int best = NONE;
        int bestLength = 0;
        int begin = 0;
        for (int p = 1; p <= text.signs.size; p++) {
            if (stateAt(kind, p) == BOUNDARY) {
                if (p - begin > bestLength) {
                    best = begin;
                    bestLength = p - begin;
                }
                begin = p;
            }
        }
        return best;
    }

    /** Promise 23. */
    public int segmentsWith(int kind, int number) {
        if (!isKind(kind) || !isClass(number)) {
            return BAD_VALUE;
        }
        int count = 0;
        boolean counted = false;
        for (int p = 0; p < text.signs.size; p++) {
            if (stateAt(kind, p) == BOUNDARY) {
                counted = false;
            }
            if (!counted && text.classAt(p) == number) {
                counted = true;
                count++;
            }
        }
        return count;
    }

    /** Promise 24. */
    public int looksAt(int kind, int position) {
        if (!isKind(kind)) {
            return BAD_VALUE;
        }
        if (!isPositionOfCharacter(position)) {
            return NO_SUCH_POSITION;
        }
        kinds[kind].measure(text, position);
        return kinds[kind].looked;
    }

    /** Promise 25. */
    public int work(int kind) {
        return isKind(kind) ? kinds[kind].analysed : BAD_VALUE;
    }

    // ---- what arguments may be

    private static boolean isCharacter(char character) {
        return character >= FIRST_CODE && character <= LAST_CODE;
    }

    private static boolean isClass(int number) {
        return number >= 0 && number < CLASSES;
    }

    private static boolean isKind(int kind) {
        return kind >= 0 && kind < KINDS;
    }

    private static boolean isPlace(int place) {
        return place >= 0 && place < PLACES;
    }

    private boolean isPosition(int position) {
        return position >= 0 && position <= text.signs.size;
    }

    private boolean isPositionOfCharacter(int position) {
        return position >= 0 && position < text.signs.size;
    }

    private static boolean isExceptionWord(Row word) {
        if (word.size < 1 || word.size > WORD_ROOM) {
            return false;
        }
        for (int i = 0; i < word.size; i++) {
            if (!isCharacter(word.at(i))) {
                return false;
            }
        }
        return true;
    }

    // ---- patterns

    private static boolean isClassLetterOrDot(char sign) {
        return sign == '.' || (sign >= 'A' && sign < 'A' + CLASSES);
    }

    private static boolean isRepetition(char sign) {
        return sign == '*' || sign == '+' || sign == '?';
    }

    /** The fault of a pattern, or NO_FAULT. */
    private static int faultOf(Row pattern) {
        int depth = 0;
        boolean behindItem = false;
        boolean mayRepeat = false;
        boolean behindSlash = false;
        for (int i = 0; i < pattern.size; i++) {
            char sign = pattern.at(i);
            if (isClassLetterOrDot(sign)) {
                behindItem = true;
                mayRepeat = true;
            } else if (sign == '(' && depth < DEEPEST) {
                depth++;
                behindItem = false;
                mayRepeat = false;
            } else if (sign == ')' && depth > 0 && behindItem) {
                depth--;
                mayRepeat = true;
            } else if (sign == '|' && behindItem) {
                behindItem = false;
                mayRepeat = false;
            } else if (sign == '/' && behindItem && depth == 0 && !behindSlash) {
                behindSlash = true;
                behindItem = false;
                mayRepeat = false;
            } else if (isRepetition(sign) && mayRepeat) {
                mayRepeat = false;
            } else {
                return i;
            }
        }
        return behindItem && depth == 0 ? NO_FAULT : pattern.size;
    }

    // ---- edits and boundaries

    /** Carries out an edit that puts in, or takes out, the characters of the given one. */
    private void carryOut(Edit edit, boolean puttingIn) {
        int lengthBefore = text.signs.size;
        int place = edit.position;
        int n = edit.signs.size;
        if (puttingIn) {
            text.signs.putIn(place, edit.signs);
        } else {
            text.signs.takeOut(place, n);
        }
        int behind = puttingIn ? place + n : place;
        for (int k = 0; k < KINDS; k++) {
            Kind kind = kinds[k];
            int start = kind.firstTouched(place, lengthBefore);
            if (puttingIn) {
                kind.moveUp(place, n, lengthBefore);
            } else {
                kind.moveDown(place, n, lengthBefore);
            }
            kind.analyse(text, start, behind);
        }
    }

    /** NO_BOUNDARY, BOUNDARY or SUPPRESSED. */
    private int stateAt(int kind, int position) {
        if (!kinds[kind].isRaw(position, text.signs.size)) {
            return NO_BOUNDARY;
        }
        boolean inside = position > 0 && position < text.signs.size;
        if (kind == KIND_WITH_EXCEPTIONS && inside && isBehindException(position)) {
            return SUPPRESSED;
        }
        return BOUNDARY;
    }

    private int boundaryBehind(int kind, int position) {
        for (int p = position + 1; p <= text.signs.size; p++) {
            if (stateAt(kind, p) == BOUNDARY) {
                return p;
            }
        }
        return NONE;
    }

    /**
     * Whether an exception, a "." and characters of class C end at the position. The "." may itself
     * be of class C, so that the first "." met need not be the one behind the word.
     */
    private boolean isBehindException(int position) {
        for (int p = position - 1; p > 0; p--) {
            if (text.signs.at(p) == '.' && isExceptionBefore(p)) {
                return true;
            }
            if (text.classAt(p) != CLASS_C) {
                return false;
            }
        }
        return false;
    }

    /** Whether the word that ends at the position, in its whole length, is an exception. */
    private boolean isExceptionBefore(int end) {
        int begin = end;
        while (begin > 0 && text.classAt(begin - 1) == CLASS_A) {
            begin--;
        }
        return exceptionAt(text.signs, begin, end - begin) != NONE;
    }

    /** The index of the exception that is this part of a row, or NONE. */
    private int exceptionAt(Row row, int from, int count) {
        for (int i = 0; i < exceptionCount; i++) {
            if (exceptions[i].isPartOf(row, from, count)) {
                return i;
            }
        }
        return NONE;
    }

    /** A row of characters with a fixed room, which its size never passes. */
    private static final class Row {
        final char[] signs;
        int size;

        Row(int room) {
            signs = new char[Math.max(0, room)];
        }

        /** The character at an index, or 0 where there is none. */
        char at(int i) {
            return i >= 0 && i < size ? signs[i] : (char) 0;
        }

        void append(char sign) {
            if (size < signs.length) {
                signs[size] = sign;
                size++;
            }
        }

        /** Becomes a copy of a part of another row. */
        void become(Row other, int from, int count) {
            size = 0;
            for (int i = 0; i < count; i++) {
                append(other.at(from + i));
            }
        }

        /** Whether all of this row is the given part of the other. */
        boolean isPartOf(Row other, int from, int count) {
            if (size != count) {
                return false;
            }
            for (int i = 0; i < size; i++) {
                if (at(i) != other.at(from + i)) {
                    return false;
                }
            }
            return true;
        }

        void putIn(int position, Row other) {
            int n = other.size;
            if (position < 0 || position > size || n > signs.length - size) {
                return;
            }
            System.arraycopy(signs, position, signs, position + n, size - position);
            System.arraycopy(other.signs, 0, signs, position, n);
            size += n;
        }

        void takeOut(int position, int n) {
            if (position < 0 || n < 0 || n > size - position) {
                return;
            }
            System.arraycopy(signs, position + n, signs, position, size - position - n);
            size -= n;
        }
    }

    /** The text, and the classes through which rules see it. */
    private static final class Text {
        final Row signs = new Row(TEXT_ROOM);
        final int[] classes = new int[LAST_CODE - FIRST_CODE + 1];

        Text() {
            for (int i = 0; i < classes.length; i++) {
                classes[i] = firstClassOf(FIRST_CODE + i);
            }
        }

        static int firstClassOf(int code) {
            if ((code >= 'a' && code <= 'z') || (code >= 'A' && code <= 'Z')) {
                return CLASS_A;
            }
            if (code >= '0' && code <= '9') {
                return 1;
            }
            switch (code) {
                case ' ':
                    return CLASS_C;
                case '.':
                    return 3;
                case ',': case ';': case ':':
                    return 4;
                case '!': case '?':
                    return 5;
                case '\'':
                    return 6;
                case '-':
                    return 7;
                case '(': case '[':
                    return 8;
                case ')': case ']': case '"':
                    return 9;
                case '^': case '~': case '`':
                    return 10;
                default:
                    return 11;
            }
        }

        int classOfCharacter(char character) {
            int i = character - FIRST_CODE;
            return i >= 0 && i < classes.length ? classes[i] : NO_CLASS;
        }

        void changeClass(char character, int number) {
            int i = character - FIRST_CODE;
            if (i >= 0 && i < classes.length) {
                classes[i] = number;
            }
        }

        int classAt(int position) {
            return classOfCharacter(signs.at(position));
        }
    }

    /**
     * A set of ways to match, as an automaton sees it: the leaves (class letters and dots) that can
     * take the first character, those that can take the last one, and whether it can match nothing.
     * A leaf is named by its index in the pattern; a set of leaves has a bit for each.
     */
    private static final class Part {
        int first;
        int last;
        boolean canBeEmpty;

        void become(int firstLeaves, int lastLeaves, boolean empty) {
            first = firstLeaves;
            last = lastLeaves;
            canBeEmpty = empty;
        }

        void becomeNothing() {
            become(0, 0, false);
        }

        void becomeEmpty() {
            become(0, 0, true);
        }

        void orElse(Part other) {
            become(first | other.first, last | other.last, canBeEmpty || other.canBeEmpty);
        }

        void followedBy(Part other) {
            become(canBeEmpty ? first | other.first : first,
                    other.canBeEmpty ? last | other.last : other.last,
                    canBeEmpty && other.canBeEmpty);
        }
    }

    /**
     * A rule: its pattern, and the automaton that was built from it. A rule without a look-ahead has
     * one that matches nothing but the empty sequence, which says the same.
     */
    private static final class Rule {
        final Row signs = new Row(PATTERN_ROOM);
        final Part body = new Part();
        final Part ahead = new Part();
        /** For each leaf, those that can take the character after its own. */
        final int[] followers = new int[PATTERN_ROOM];
        /** For each class, the leaves that take its characters. */
        final int[] takers = new int[CLASSES];

        /**
         * For each leaf of the look-ahead that can take the next character, the greatest length of
         * a body behind which the look-ahead came to it, otherwise -1. The greatest one is enough,
         * since all that share a leaf have the same ways to go on.
         */
        int[] waiting = new int[PATTERN_ROOM];
        int[] waitingThen = new int[PATTERN_ROOM];

        /** What the latest walk found: the length of the rule, and how far it looked. */
        int matched;
        int looked;

        boolean isSet() {
            return signs.size > 0;
        }

        int takersOf(int number) {
            return isClass(number) ? takers[number] : 0;
        }

        /** Finds the length at a position, and how many characters (and perhaps the end) are looked at. */
        void walk(Text text, int from) {
            matched = 0;
            Arrays.fill(waiting, -1);
            int open = body.first;
            if (body.canBeEmpty) {
                beginAhead(0);
            }
            boolean goesOn = true;
            int at = from;
            int end = text.signs.size;
            while (goesOn && at < end) {
                int taking = takersOf(text.classAt(at));
                at++;
                int taken = open & taking;
                open = followersOf(taken);
                goesOn = stepAhead(taking) || taken != 0;
                if ((taken & body.last) != 0) {
                    beginAhead(at - from);
                }
            }
            looked = goesOn ? at - from + 1 : at - from;
        }

        int followersOf(int leaves) {
            int all = 0;
            for (int leaf = 0; leaf < PATTERN_ROOM && leaves >> leaf != 0; leaf++) {
                if ((leaves >> leaf & 1) != 0) {
                    all |= followers[leaf];
                }
            }
            return all;
        }

        /** A body of this length has matched: its look-ahead can begin. */
        void beginAhead(int length) {
            if (ahead.canBeEmpty) {
                matched = length;
            }
            waitAt(waiting, ahead.first, length);
        }

        /** Lets the look-ahead take a character; whether any leaf of it did. */
        boolean stepAhead(int taking) {
            if (ahead.first == 0) {
                return false;
            }
            boolean taken = false;
            Arrays.fill(waitingThen, -1);
            for (int leaf = 0; leaf < PATTERN_ROOM; leaf++) {
                int length = waiting[leaf];
                if (length >= 0 && (taking >> leaf & 1) != 0) {
                    taken = true;
                    if ((ahead.last >> leaf & 1) != 0) {
                        matched = Math.max(matched, length);
                    }
                    waitAt(waitingThen, followers[leaf], length);
                }
            }
            int[] spare = waiting;
            waiting = waitingThen;
            waitingThen = spare;
            return taken;
        }

        static void waitAt(int[] row, int leaves, int length) {
            for (int leaf = 0; leaf < row.length && leaves >> leaf != 0; leaf++) {
                if ((leaves >> leaf & 1) != 0 && row[leaf] < length) {
                    row[leaf] = length;
                }
            }
        }
    }

    /**
     * Builds the automaton of a rule, whose pattern has no fault, in one pass. For each depth of
     * parentheses it holds the alternatives before the latest "|" and the sequence since then.
     */
    private static final class RuleBuilder {
        final Part[] alternatives = new Part[DEEPEST + 1];
        final Part[] sequences = new Part[DEEPEST + 1];
        final Part item = new Part();
        int depth;

        RuleBuilder() {
            for (int i = 0; i <= DEEPEST; i++) {
                alternatives[i] = new Part();
                sequences[i] = new Part();
            }
        }

        void build(Rule rule) {
            Arrays.fill(rule.followers, 0);
            Arrays.fill(rule.takers, 0);
            Part target = rule.body;
            rule.ahead.becomeEmpty();
            depth = 0;
            beginLevel();
            for (int i = 0; i < rule.signs.size; i++) {
                char sign = rule.signs.at(i);
                if (sign == '(') {
                    goDeeper();
                } else if (sign == ')') {
                    goBack();
                    addItem(rule, rule.signs.at(i + 1));
                } else if (sign == '|') {
                    endSequence();
                } else if (sign == '/') {
                    endAlternatives(target);
                    target = rule.ahead;
                } else if (isClassLetterOrDot(sign)) {
                    takeLeaf(rule, i, sign);
                    addItem(rule, rule.signs.at(i + 1));
                }
                // A repetition needs nothing more: addItem looked at it.
            }
            endAlternatives(target);
        }

        void beginLevel() {
            alternatives[depth].becomeNothing();
            sequences[depth].becomeEmpty();
        }

        void goDeeper() {
            if (depth < DEEPEST) {
                depth++;
                beginLevel();
            }
        }

        void goBack() {
            if (depth > 0) {
                endSequence();
                Part inner = alternatives[depth];
                item.become(inner.first, inner.last, inner.canBeEmpty);
                depth--;
            }
        }

        void endSequence() {
            alternatives[depth].orElse(sequences[depth]);
            sequences[depth].becomeEmpty();
        }

        void endAlternatives(Part target) {
            endSequence();
            Part all = alternatives[depth];
            target.become(all.first, all.last, all.canBeEmpty);
            beginLevel();
        }

        void takeLeaf(Rule rule, int leaf, char sign) {
            int bit = 1 << leaf;
            for (int number = 0; number < CLASSES; number++) {
                if (sign == '.' || sign == 'A' + number) {
                    rule.takers[number] |= bit;
                }
            }
            item.become(bit, bit, false);
        }

        void addItem(Rule rule, char repetition) {
            if (repetition == '*' || repetition == '+') {
                link(rule, item.last, item.first);
            }
            if (repetition == '*' || repetition == '?') {
                item.canBeEmpty = true;
            }
            link(rule, sequences[depth].last, item.first);
            sequences[depth].followedBy(item);
        }

        void link(Rule rule, int leaves, int then) {
            for (int leaf = 0; leaf < PATTERN_ROOM; leaf++) {
                if ((leaves >> leaf & 1) != 0) {
                    rule.followers[leaf] |= then;
                }
            }
        }
    }

    /** A kind of analysis: its rules, and its raw boundaries, which are kept. */
    private static final class Kind {
        final Rule[] rules = new Rule[PLACES];
        /**
         * For each position before the end of the text: what the analysis there looked at, as
         * looksAt() tells it, if it is a raw boundary, otherwise 0.
         */
        final int[] looks = new int[TEXT_ROOM];
        /** The work of the latest change. */
        int analysed;

        /** What the latest measuring found: the length of the segment, and how far it looked. */
        int length;
        int looked;

        Kind() {
            for (int place = 0; place < PLACES; place++) {
                rules[place] = new Rule();
            }
        }

        boolean isRaw(int position, int textLength) {
            return position == textLength
                    || (position >= 0 && position < textLength && looks[position] > 0);
        }

        void measure(Text text, int position) {
            length = 1;
            looked = 1;
            for (int place = 0; place < PLACES; place++) {
                Rule rule = rules[place];
                if (rule.isSet()) {
                    rule.walk(text, position);
                    length = Math.max(length, rule.matched);
                    looked = Math.max(looked, rule.looked);
                }
            }
        }

        /**
         * The first raw boundary whose analysis looked at the place or behind it. One that looked at
         * the end has looked at one more than there are characters, and so passes any place.
         */
        int firstTouched(int place, int textLength) {
            for (int p = 0; p < textLength && p < looks.length; p++) {
                if (looks[p] > 0 && p + looks[p] > place) {
                    return p;
                }
            }
            return textLength;
        }

        /** Moves what is known from the place on behind n new characters. */
        void moveUp(int place, int n, int textLength) {
            if (place < 0 || n < 0 || place > textLength || n > looks.length - textLength) {
                return;
            }
            System.arraycopy(looks, place, looks, place + n, textLength - place);
            Arrays.fill(looks, place, place + n, 0);
        }

        /** Moves what is known behind n erased characters to the place. */
        void moveDown(int place, int n, int textLength) {
            if (place < 0 || n < 0 || n > textLength - place || textLength > looks.length) {
                return;
            }
            System.arraycopy(looks, place + n, looks, place, textLength - place - n);
        }

        void analyseAll(Text text) {
            analyse(text, 0, text.signs.size);
        }

        /** Analyses from a position on up to a raw boundary that is known, at least at the given place. */
        void analyse(Text text, int start, int known) {
            int end = Math.min(text.signs.size, looks.length);
            int p = Math.max(0, start);
            analysed = 0;
            while (p < end && (p < known || looks[p] == 0)) {
                measure(text, p);
                int behind = Math.min(end, p + length);
                looks[p] = looked;
                for (p++; p < behind; p++) {
                    looks[p] = 0;
                }
                analysed++;
            }
        }
    }

    /** An edit: which characters it inserted or erased, and where. */
    private static final class Edit {
        final Row signs = new Row(TEXT_ROOM);
        boolean inserts;
        int position;
    }

    /**
     * The edits that can be undone, the oldest one first, and behind them those that can be redone.
     * They lie in a ring, so that dropping the oldest one moves nothing.
     */
    private static final class History {
        final Edit[] edits = new Edit[HISTORY_ROOM];
        int oldest;
        int undoable;
        int redoable;

        History() {
            for (int i = 0; i < HISTORY_ROOM; i++) {
                edits[i] = new Edit();
            }
        }

        Edit atIndex(int i) {
            return edits[Math.floorMod(oldest + i, HISTORY_ROOM)];
        }

        /** The room for a new edit, which counts from now on. */
        Edit begin() {
            redoable = 0;
            if (undoable >= HISTORY_ROOM) {
                oldest = Math.floorMod(oldest + 1, HISTORY_ROOM);
                undoable = HISTORY_ROOM - 1;
            }
            undoable++;
            return atIndex(undoable - 1);
        }

        Edit stepBack() {
            undoable--;
            redoable++;
            return atIndex(undoable);
        }

        Edit stepForward() {
            undoable++;
            redoable--;
            return atIndex(undoable - 1);
        }
    }
}
