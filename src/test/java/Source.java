import java.io.IOException;
import java.nio.file.Files;
import java.nio.file.Path;
import java.util.ArrayList;
import java.util.HashMap;
import java.util.HashSet;
import java.util.List;
import java.util.Map;
import java.util.Set;
import java.util.TreeSet;
import java.util.regex.Matcher;
import java.util.regex.Pattern;

/** The class as it is written: its methods, how long they are, and which names they call. */
final class Source {
    /** A method or constructor of any class of the file, without its head and its last line. */
    record Body(String name, List<String> lines) {
        boolean isConstructor() {
            return Character.isUpperCase(name.charAt(0));
        }

        Set<String> calls() {
            return namesCalled(String.join("\n", lines));
        }
    }

    private static final Pattern HEAD = Pattern.compile("( +)(?:\\w+ )*?(?:[\\w\\[\\]]+ )?(\\w+)\\(.*\\) \\{");

    final String whole;
    /** Without comments, and without the signs between quotes. */
    final String code;
    final List<Body> bodies = new ArrayList<>();

    Source(Path file) throws IOException {
        whole = Files.readString(file);
        code = whole.replaceAll("(?s)/\\*.*?\\*/", " ").replaceAll("'(\\\\.|[^\\\\'])'", "0")
                .replaceAll("//[^\n]*", " ");
        findBodies(code.split("\n"));
    }

    private void findBodies(String[] lines) {
        for (int i = 0; i < lines.length; i++) {
            Matcher head = HEAD.matcher(lines[i]);
            if (head.matches()) {
                List<String> body = new ArrayList<>();
                for (i++; !lines[i].equals(head.group(1) + "}"); i++) {
                    body.add(lines[i]);
                }
                bodies.add(new Body(head.group(2), body));
            }
        }
    }

    private static Set<String> namesCalled(String part) {
        Set<String> names = new TreeSet<>();
        Matcher call = Pattern.compile("(\\w+)\\(").matcher(part);
        while (call.find()) {
            names.add(call.group(1));
        }
        return names;
    }

    Set<String> names() {
        Set<String> names = new TreeSet<>();
        bodies.forEach(body -> names.add(body.name()));
        return names;
    }

    /** The calls of methods of the same name, taken together: more than are there, but never fewer. */
    private Map<String, Set<String>> callsByName() {
        Map<String, Set<String>> calls = new HashMap<>();
        for (Body body : bodies) {
            calls.computeIfAbsent(body.name(), name -> new HashSet<>()).addAll(body.calls());
        }
        return calls;
    }

    /** How many methods can stand open at once, or a very large number if one can call itself. */
    int depthOfCalls() {
        Map<String, Set<String>> calls = callsByName();
        int deepest = 0;
        for (String name : calls.keySet()) {
            deepest = Math.max(deepest, depthFrom(name, calls, new HashSet<>()));
        }
        return deepest;
    }

    private static int depthFrom(String name, Map<String, Set<String>> calls, Set<String> open) {
        if (!calls.containsKey(name)) {
            return 0;
        }
        if (!open.add(name)) {
            return 1_000_000;
        }
        int deepest = 0;
        for (String called : calls.get(name)) {
            deepest = Math.max(deepest, depthFrom(called, calls, open));
        }
        open.remove(name);
        return deepest + 1;
    }
}
