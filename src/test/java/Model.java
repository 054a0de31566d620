import java.util.ArrayList;
import java.util.List;

/** The document's words, followed as plainly as can be, to compare the class with. */
final class Model {
    private record Edit(boolean inserts, int position, String signs) {}

    private final int[] classes = new int[127];
    private final StringBuilder pattern = new StringBuilder();
    private final String[][] ruleTexts = new String[3][5];
    private final ModelPattern[][] rules = new ModelPattern[3][5];
    private final List<String> exceptions = new ArrayList<>();
    private String text = "";
    private final List<List<Integer>> raws = new ArrayList<>();
    private final int[] works = new int[3];
    private final List<Edit> undoable = new ArrayList<>();
    private final List<Edit> redoable = new ArrayList<>();

    Model() {
        String[] signs = {"", "0123456789", " ", ".", ",;:", "!?", "'", "-", "([", ")]\"", "^~`"};
        for (int code = 32; code <= 126; code++) {
            classes[code] = Character.isLetter(code) ? 0 : 11;
            for (int number = 1; number < signs.length; number++) {
                if (signs[number].indexOf(code) >= 0) {
                    classes[code] = number;
                }
            }
        }
        for (int kind = 0; kind < 3; kind++) {
            raws.add(List.of(0));
        }
    }

    private static boolean in(int value, int low, int high) {
        return value >= low && value <= high;
    }

    // ---- classes, patterns, rules

    int setClass(char character, int number) {
        if (!in(character, 32, 126) || !in(number, 0, 11)) {
            return -2;
        }
        int before = classes[character];
        classes[character] = number;
        for (int kind = 0; kind < 3 && before != number; kind++) {
            analyseAnew(kind);
        }
        return before;
    }

    int classOf(char character) {
        return in(character, 32, 126) ? classes[character] : -2;
    }

    int type(char character) {
        if (pattern.length() == 24) {
            return -3;
        }
        return pattern.append(character).length();
    }

    int clearPattern() {
        int before = pattern.length();
        pattern.setLength(0);
        return before;
    }

    int setRule(int kind, int place) {
        if (!in(kind, 0, 2) || !in(place, 0, 4)) {
            return -2;
        }
        int before = rules[kind][place] == null ? 0 : 1;
        if (pattern.length() == 0) {
            if (before == 1) {
                rules[kind][place] = null;
                ruleTexts[kind][place] = null;
                analyseAnew(kind);
            }
            return before;
        }
        try {
            rules[kind][place] = new ModelPattern(pattern.toString());
        } catch (ModelPattern.Fault fault) {
            return -100 - fault.index;
        }
        ruleTexts[kind][place] = pattern.toString();
        analyseAnew(kind);
        return before;
    }

    int ruleText(int kind, int place, int i) {
        if (!in(kind, 0, 2) || !in(place, 0, 4) || i < 0) {
            return -2;
        }
        String signs = ruleTexts[kind][place];
        return signs == null || i >= signs.length() ? -5 : signs.charAt(i);
    }

    int matchLength(int kind, int place, int position) {
        if (!in(kind, 0, 2) || !in(place, 0, 4)) {
            return -2;
        }
        if (!in(position, 0, text.length())) {
            return -1;
        }
        ModelPattern rule = rules[kind][place];
        return rule == null ? -5 : rule.length(textClasses(), position);
    }

    int addException() {
        String word = pattern.toString();
        if (!in(word.length(), 1, 8) || !word.chars().allMatch(code -> in(code, 32, 126))) {
            return -2;
        }
        if (exceptions.contains(word)) {
            return -4;
        }
        if (exceptions.size() == 10) {
            return -3;
        }
        exceptions.add(word);
        return exceptions.size();
    }

    int removeException() {
        return exceptions.remove(pattern.toString()) ? exceptions.size() : -5;
    }

    // ---- the text

    int insert(int position, char character) {
        if (!in(position, 0, text.length())) {
            return -1;
        }
        if (!in(character, 32, 126)) {
            return -2;
        }
        if (text.length() == 100) {
            return -3;
        }
        return carryOutNew(new Edit(true, position, String.valueOf(character)));
    }

    int erase(int position, int n) {
        if (!in(position, 0, text.length() - 1)) {
            return -1;
        }
        if (n < 1 || (long) position + n > text.length()) {
            return -2;
        }
        return carryOutNew(new Edit(false, position, text.substring(position, position + n)));
    }

    private int carryOutNew(Edit edit) {
        redoable.clear();
        keepInHistory(edit);
        carryOut(edit);
        return text.length();
    }

    private void keepInHistory(Edit edit) {
        undoable.add(edit);
        if (undoable.size() > 30) {
            undoable.remove(0);
        }
    }

    int undo() {
        if (undoable.isEmpty()) {
            return -5;
        }
        Edit edit = undoable.remove(undoable.size() - 1);
        redoable.add(edit);
        carryOut(new Edit(!edit.inserts, edit.position, edit.signs));
        return undoable.size();
    }

    int redo() {
        if (redoable.isEmpty()) {
            return -5;
        }
        Edit edit = redoable.remove(redoable.size() - 1);
        keepInHistory(edit);
        carryOut(edit);
        return redoable.size();
    }

    int charAt(int position) {
        return in(position, 0, text.length() - 1) ? text.charAt(position) : -1;
    }

    int value(int what) {
        int[] values = {text.length(), pattern.length(), exceptions.size(), undoable.size(), redoable.size()};
        return in(what, 0, 4) ? values[what] : -2;
    }

    // ---- boundaries

    int boundaryAt(int kind, int position) {
        if (!in(kind, 0, 2)) {
            return -2;
        }
        if (!in(position, 0, text.length())) {
            return -1;
        }
        if (!raws.get(kind).contains(position)) {
            return 0;
        }
        return kind == 2 && suppressed(position) ? 2 : 1;
    }

    int next(int kind, int position) {
        if (!in(kind, 0, 2)) {
            return -2;
        }
        if (!in(position, 0, text.length())) {
            return -1;
        }
        return boundaries(kind).stream().filter(b -> b > position).findFirst().orElse(-5);
    }

    int previous(int kind, int position) {
        if (!in(kind, 0, 2)) {
            return -2;
        }
        if (!in(position, 0, text.length())) {
            return -1;
        }
        return boundaries(kind).stream().filter(b -> b < position).reduce((a, b) -> b).orElse(-5);
    }

    int segmentCount(int kind) {
        return in(kind, 0, 2) ? boundaries(kind).size() - 1 : -2;
    }

    int segment(int kind, int k) {
        if (!in(kind, 0, 2) || k < 0) {
            return -2;
        }
        List<Integer> all = boundaries(kind);
        return k < all.size() - 1 ? all.get(k) : -5;
    }

    int longest(int kind) {
        if (!in(kind, 0, 2)) {
            return -2;
        }
        List<Integer> all = boundaries(kind);
        int best = -5;
        int length = 0;
        for (int i = 0; i + 1 < all.size(); i++) {
            if (all.get(i + 1) - all.get(i) > length) {
                best = all.get(i);
                length = all.get(i + 1) - best;
            }
        }
        return best;
    }

    int segmentsWith(int kind, int number) {
        if (!in(kind, 0, 2) || !in(number, 0, 11)) {
            return -2;
        }
        List<Integer> all = boundaries(kind);
        int count = 0;
        for (int i = 0; i + 1 < all.size(); i++) {
            String segment = text.substring(all.get(i), all.get(i + 1));
            count += segment.chars().anyMatch(code -> classes[code] == number) ? 1 : 0;
        }
        return count;
    }

    int looksAt(int kind, int position) {
        if (!in(kind, 0, 2)) {
            return -2;
        }
        return in(position, 0, text.length() - 1) ? looks(kind, position) : -1;
    }

    int work(int kind) {
        return in(kind, 0, 2) ? works[kind] : -2;
    }

    // ---- what the description says

    private int[] textClasses() {
        return text.chars().map(code -> classes[code]).toArray();
    }

    private int looks(int kind, int position) {
        int[] row = textClasses();
        int begins = 0;
        for (ModelPattern rule : rules[kind]) {
            begins = Math.max(begins, rule == null ? 0 : rule.beginning(row, position));
        }
        // One more than begins a match is too many; with all of them, the one more is the end.
        return begins + 1;
    }

    private int segmentEnd(int kind, int position) {
        int length = 0;
        for (ModelPattern rule : rules[kind]) {
            length = Math.max(length, rule == null ? 0 : rule.length(textClasses(), position));
        }
        return position + Math.max(1, length);
    }

    private List<Integer> freshRaws(int kind) {
        List<Integer> fresh = new ArrayList<>(List.of(0));
        for (int p = 0; p < text.length();) {
            p = segmentEnd(kind, p);
            fresh.add(p);
        }
        return fresh;
    }

    private void analyseAnew(int kind) {
        raws.set(kind, freshRaws(kind));
        works[kind] = raws.get(kind).size() - 1;
    }

    private void carryOut(Edit edit) {
        int e = edit.position;
        int n = edit.signs.length();
        String before = text;
        int[] starts = new int[3];
        for (int kind = 0; kind < 3; kind++) {
            starts[kind] = firstTouched(kind, e);
        }
        text = edit.inserts ? before.substring(0, e) + edit.signs + before.substring(e)
                : before.substring(0, e) + before.substring(e + n);
        int delta = edit.inserts ? n : -n;
        int behind = edit.inserts ? e + n : e;
        for (int kind = 0; kind < 3; kind++) {
            keep(kind, starts[kind], behind, delta);
        }
    }

    private int firstTouched(int kind, int e) {
        List<Integer> raw = raws.get(kind);
        for (int i = 0; i + 1 < raw.size(); i++) {
            int p = raw.get(i);
            int looks = looks(kind, p);
            boolean sawEnd = looks > text.length() - p;
            if (sawEnd || p + looks - 1 >= e) {
                return p;
            }
        }
        return raw.get(raw.size() - 1);
    }

    private void keep(int kind, int start, int behind, int delta) {
        List<Integer> old = raws.get(kind);
        List<Integer> now = new ArrayList<>(old.stream().filter(b -> b <= start).toList());
        works[kind] = 0;
        int q = start;
        while (q != text.length() && !(q >= behind && old.contains(q - delta))) {
            q = segmentEnd(kind, q);
            now.add(q);
            works[kind]++;
        }
        for (int b : old) {
            if (b + delta > q) {
                now.add(b + delta);
            }
        }
        if (!now.equals(freshRaws(kind))) {
            throw new IllegalStateException("kept " + now + ", fresh " + freshRaws(kind));
        }
        raws.set(kind, now);
    }

    private List<Integer> boundaries(int kind) {
        return raws.get(kind).stream().filter(b -> kind != 2 || !suppressed(b)).toList();
    }

    private boolean suppressed(int boundary) {
        if (boundary == 0 || boundary == text.length()) {
            return false;
        }
        for (String word : exceptions) {
            for (int dot = boundary - 1; dot >= word.length(); dot--) {
                if (isSuppressing(word, dot, boundary)) {
                    return true;
                }
            }
        }
        return false;
    }

    private boolean isSuppressing(String word, int dot, int boundary) {
        int begin = dot - word.length();
        return text.charAt(dot) == '.'
                && text.startsWith(word, begin)
                && text.substring(dot + 1, boundary).chars().allMatch(code -> classes[code] == 2)
                && word.chars().allMatch(code -> classes[code] == 0)
                && (begin == 0 || classes[text.charAt(begin - 1)] != 0);
    }
}
