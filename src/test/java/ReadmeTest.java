import java.lang.reflect.Field;
import java.lang.reflect.Method;
import java.lang.reflect.Modifier;
import java.nio.file.Files;
import java.nio.file.Path;
import java.util.Set;
import java.util.TreeSet;
import java.util.regex.Matcher;
import java.util.regex.Pattern;
import java.util.stream.Stream;

/** What README.md says: its code, its tables of methods and answers, its limits, and its list of tests. */
public final class ReadmeTest {
    private static final Pattern CALL = Pattern.compile("x\\." + WrittenCall.FORM + ";");
    private static final Pattern ANSWER = Pattern.compile("// (-?\\d+)(:.*)?");

    private static final Due due = new Due();
    private static final Set<String> usedInCode = new TreeSet<>();
    private static int answers;

    public static void main(String[] args) throws Exception {
        String readme = Files.readString(Path.of("README.md"));
        code(readme);
        methods(readme);
        constants(readme);
        limits(readme);
        tests(readme);
        due.end("ReadmeTest");
    }

    // ---- the code

    private static void code(String readme) throws ReflectiveOperationException {
        Matcher block = Pattern.compile("(?s)```java\n(.*?)```").matcher(readme);
        int blocks = 0;
        while (block.find()) {
            blocks++;
            runBlock(block.group(1).split("\n"));
        }
        due.answer("pieces of code", blocks, 4);
        due.holds("that most lines of code tell an answer", answers > 30);
    }

    private static void runBlock(String[] lines) throws ReflectiveOperationException {
        due.holds("that '" + lines[0] + "' makes an object",
                lines[0].equals("BoundaryAnalyzer x = new BoundaryAnalyzer();"));
        BoundaryAnalyzer x = new BoundaryAnalyzer();
        for (int i = 1; i < lines.length; i++) {
            runLine(x, lines[i]);
        }
    }

    /** Makes the calls of a line; the answer in its comment, if there is one, is that of the last call. */
    private static void runLine(BoundaryAnalyzer x, String line) throws ReflectiveOperationException {
        Matcher call = CALL.matcher(line);
        int answer = 0;
        int end = 0;
        while (call.find() && line.substring(end, call.start()).isBlank()) {
            String written = call.group().substring(2, call.group().length() - 1);
            WrittenCall each = new WrittenCall(written);
            usedInCode.add(each.name());
            answer = each.on(x);
            end = call.end();
        }
        String comment = line.substring(end).trim();
        Matcher told = ANSWER.matcher(comment);
        due.holds("that '" + line + "' is calls and a comment", end > 0 && (comment.isEmpty() || comment.startsWith("// ")));
        if (told.matches()) {
            answers++;
            due.answer("README: " + line.trim(), answer, Integer.parseInt(told.group(1)));
        }
    }

    // ---- the tables

    private static Set<String> found(String text, String pattern) {
        Set<String> all = new TreeSet<>();
        Matcher each = Pattern.compile(pattern).matcher(text);
        while (each.find()) {
            all.add(each.group(1));
        }
        return all;
    }

    private static void same(String what, Set<String> got, Set<String> want) {
        due.holds("that " + what + " of README, " + got + ", are " + want, got.equals(want));
    }

    private static String section(String readme, String head) {
        int from = readme.indexOf(head + "\n");
        int end = readme.indexOf("\n##", from + head.length());
        due.holds("that README has '" + head + "'", from >= 0);
        return from < 0 ? "" : readme.substring(from, end < 0 ? readme.length() : end);
    }

    private static void methods(String readme) {
        Set<String> want = new TreeSet<>();
        Set<String> names = new TreeSet<>();
        for (Method method : BoundaryAnalyzer.class.getDeclaredMethods()) {
            if (Modifier.isPublic(method.getModifiers())) {
                want.add(method.getName() + " of " + method.getParameterCount());
                names.add(method.getName());
            }
        }
        Set<String> got = new TreeSet<>();
        for (String written : found(section(readme, "### Methods"), "`(\\w+\\([^`]*\\))`")) {
            String arguments = written.substring(written.indexOf('(') + 1, written.length() - 1);
            got.add(written.substring(0, written.indexOf('(')) + " of "
                    + (arguments.isEmpty() ? 0 : arguments.split(", ").length));
        }
        same("the methods", got, want);
        due.holds("that code uses methods of the class, as " + usedInCode, names.containsAll(usedInCode));
    }

    private static void constants(String readme) throws IllegalAccessException {
        Set<String> want = new TreeSet<>();
        for (Field field : BoundaryAnalyzer.class.getFields()) {
            want.add(field.getInt(null) + " | `" + field.getName() + "`");
        }
        same("the constants", found(section(readme, "### Answers below 0"), "\\| (-\\d \\| `\\w+`)"), want);
    }

    // ---- the limits

    private static void limits(String readme) {
        String words = section(readme, "### Limits").replaceAll("\\s+", " ");
        BoundaryAnalyzer x = Make.with("a".repeat(100));
        tells(words, "A text has at most 100 characters", x.insert(0, 'a') == -3);
        tells(words, "of the codes 32 to 126", x.classOf((char) 31) == -2 && x.classOf((char) 32) >= 0
                && x.classOf((char) 126) >= 0 && x.classOf((char) 127) == -2);
        tells(words, "a pattern 24", Make.typed(x, "A".repeat(24)).type('A') == -3);
        tells(words, "an exception 8", Make.typed(x, "A".repeat(9)).addException() == -2
                && Make.typed(x, "A".repeat(8)).addException() == 1);
        tells(words, "5 rules of each kind", Make.typed(x, "A").setRule(0, 5) == -2 && x.setRule(0, 4) == 0);
        for (char word = 'b'; word < 'k'; word++) {
            Make.excepting(x, String.valueOf(word));
        }
        tells(words, "and 10 exceptions", Make.typed(x, "k").addException() == -3);
        tells(words, "the latest 30 edits can be undone", x.value(3) == 30);
        for (int call = 0; call < 600; call++) {
            x.erase(0, 1);
            x.insert(0, 'a');
        }
        tells(words, "512 calls on an object; the class has no such limit", x.value(0) == 100 && x.value(3) == 30);
    }

    private static void tells(String words, String part, boolean holds) {
        due.holds("that README says '" + part + "'", words.contains(part));
        due.holds("README: " + part, holds);
    }

    // ---- the tests

    private static void tests(String readme) throws Exception {
        Set<String> files = new TreeSet<>();
        try (Stream<Path> all = Files.list(Path.of("src/test/java"))) {
            all.forEach(file -> files.add(file.getFileName().toString().replace(".java", "")));
        }
        Set<String> tests = new TreeSet<>(files);
        tests.removeIf(file -> !file.endsWith("Test"));
        String list = section(readme, "## Tests");
        same("the tests", found(list, "\n- `(\\w+)`:"), tests);
        Set<String> named = found(list, "`([A-Z]\\w+)`");
        due.holds("that each class of the tests that README names is there, as " + named, files.containsAll(named));
    }
}
