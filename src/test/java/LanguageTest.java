import java.lang.management.ManagementFactory;
import java.lang.reflect.Constructor;
import java.lang.reflect.Field;
import java.lang.reflect.Method;
import java.lang.reflect.Modifier;
import java.nio.file.Path;
import java.util.Arrays;
import java.util.List;
import java.util.Set;
import java.util.TreeSet;
import java.util.regex.Pattern;

/**
 * The face of the class, as the document declares it, and what can be tested of the language's rules.
 * Rules 7 and 9 (no index out of range, an end for every loop) are left to reading and to the other tests.
 */
public final class LanguageTest {
    private static final Due due = new Due();
    private static final Class<?> MAIN = BoundaryAnalyzer.class;

    private static final String[] FORBIDDEN = {"throw", "try", "catch", "synchronized", "assert", "protected", "native",
        "volatile", "instanceof", "Object", "Exception", "hashCode", "toString", "static \\{", "->", "::", "Exact\\("};
    /** What is called of the library; rule 4 allows more, but this is all that the class needs. */
    private static final Set<String> LIBRARY = Set.of("Arrays.fill", "Math.max", "Math.min", "Math.floorMod",
        "System.arraycopy");

    private static final int LONGEST_METHOD = 60;
    private static final int DEEPEST_CALL = 8;
    private static final int MOST_CLASSES = 12;
    private static final int MOST_FIELDS = 20;
    private static final int MOST_PARAMETERS = 7;
    private static final int CALLS_OF_A_RUN = 512;
    private static final int ROOM_OF_OBJECTS = 600_000;
    private static final int ROOM_OF_FIELDS = 7_300_000;

    public static void main(String[] args) throws Exception {
        Source source = new Source(Path.of("src/main/java/BoundaryAnalyzer.java"));
        face(new Document(Path.of("../shared/DOC.md")).face());
        rule1NoOtherOpenMember();
        rule2ClassesInside();
        rule3Types();
        rule4Library(source);
        rule5StaticFields();
        rule6Words(source);
        rules8And11Methods(source);
        rule12Room(source);
        due.end("LanguageTest");
    }

    // ---- the face

    private static String typesOf(Class<?>[] types) {
        return String.join(", ", Arrays.stream(types).map(Class::getSimpleName).toList());
    }

    private static Set<String> openMembers() throws IllegalAccessException {
        Set<String> open = new TreeSet<>();
        for (Field field : MAIN.getFields()) {
            open.add(Modifier.toString(field.getModifiers()) + " " + field.getType() + " " + field.getName() + " = "
                    + field.getInt(null));
        }
        for (Constructor<?> constructor : MAIN.getConstructors()) {
            open.add("public " + MAIN.getName() + "(" + typesOf(constructor.getParameterTypes()) + ")");
        }
        for (Method method : MAIN.getDeclaredMethods()) {
            if (Modifier.isPublic(method.getModifiers())) {
                open.add(Modifier.toString(method.getModifiers()) + " " + method.getReturnType() + " " + method.getName()
                        + "(" + typesOf(method.getParameterTypes()) + ")");
            }
        }
        return open;
    }

    private static void face(List<String> declared) throws IllegalAccessException {
        Set<String> want = new TreeSet<>();
        for (String member : declared) {
            if (!member.contains(" class ")) {
                want.add(member.replaceAll("\\b(int|char) \\w+(?=[,)])", "$1"));
            }
        }
        Set<String> got = openMembers();
        due.answer("the members that the document declares", want.size(), 30);
        due.holds("that the face is that of the document, which it is but for " + differences(got, want),
                got.equals(want));
        due.holds("the class is public and final", Modifier.isPublic(MAIN.getModifiers())
                && Modifier.isFinal(MAIN.getModifiers()));
    }

    private static Set<String> differences(Set<String> some, Set<String> others) {
        Set<String> all = new TreeSet<>(some);
        all.addAll(others);
        all.removeIf(each -> some.contains(each) && others.contains(each));
        return all;
    }

    // ---- the rules

    private static void rule1NoOtherOpenMember() {
        Set<String> open = new TreeSet<>();
        for (Method method : MAIN.getMethods()) {
            open.add(method.getName());
        }
        for (Method method : MAIN.getDeclaredMethods()) {
            int modifiers = method.getModifiers();
            due.holds(method + " is public or private, and not both by one name", Modifier.isPublic(modifiers)
                    || (Modifier.isPrivate(modifiers) && !open.contains(method.getName())));
        }
        for (Field field : MAIN.getDeclaredFields()) {
            int modifiers = field.getModifiers();
            due.holds(field + " is a public constant, or private", Modifier.isPrivate(modifiers)
                    || (Modifier.isPublic(modifiers) && Modifier.isStatic(modifiers)));
        }
        due.answer("constructors", MAIN.getDeclaredConstructors().length, 1);
    }

    private static void rule2ClassesInside() {
        Class<?>[] inside = MAIN.getDeclaredClasses();
        due.answer("classes that are not members (local or anonymous ones)",
                MAIN.getNestMembers().length - 1 - inside.length, 0);
        due.holds("at most some twelve classes", MAIN.getNestMembers().length <= MOST_CLASSES);
        for (Class<?> type : inside) {
            int modifiers = type.getModifiers();
            due.holds(type + " is static, and private or package-visible", Modifier.isStatic(modifiers)
                    && !Modifier.isPublic(modifiers) && !Modifier.isProtected(modifiers));
        }
    }

    /** Numbers, signs and the class's own classes, or rows of these. */
    private static boolean isAllowed(Class<?> type) {
        Class<?> part = type.isArray() ? type.getComponentType() : type;
        return part.isPrimitive() || part.getNestHost() == MAIN;
    }

    private static void rule3Types() {
        for (Class<?> type : MAIN.getNestMembers()) {
            for (Field field : type.getDeclaredFields()) {
                due.holds(field + " has an allowed type", isAllowed(field.getType()));
            }
            for (Method method : type.getDeclaredMethods()) {
                due.holds(method + " has allowed types", isAllowed(method.getReturnType())
                        && Arrays.stream(method.getParameterTypes()).allMatch(LanguageTest::isAllowed));
            }
        }
    }

    private static void rule4Library(Source source) {
        due.holds("nothing is imported but Arrays", !source.code.replace("import java.util.Arrays;", "").contains("import"));
        String rest = source.code;
        Set<String> called = new TreeSet<>();
        source.bodies.forEach(body -> called.addAll(body.calls()));
        called.removeAll(source.names());
        for (String name : LIBRARY) {
            rest = rest.replaceAll("\\b" + Pattern.quote(name + "("), " ");
            called.remove(name.substring(name.indexOf('.') + 1));
        }
        // Of the own classes, all have a constructor that is written out, or one that nobody wrote.
        called.removeIf(name -> Arrays.stream(MAIN.getDeclaredClasses()).anyMatch(own -> own.getSimpleName().equals(name)));
        due.holds("that no other method is called, as " + called + " are", called.isEmpty());
        due.holds("that no other class of the library is named",
                !Pattern.compile("\\b(Arrays(?!;)|Math|System|Integer|Long|String|StringBuilder|List|ArrayList)\\b")
                        .matcher(rest).find());
    }

    private static void rule5StaticFields() {
        for (Class<?> type : MAIN.getNestMembers()) {
            for (Field field : type.getDeclaredFields()) {
                if (Modifier.isStatic(field.getModifiers())) {
                    due.holds(field + " is final and a number", Modifier.isFinal(field.getModifiers())
                            && field.getType() == int.class);
                }
            }
        }
    }

    private static void rule6Words(Source source) {
        for (String word : FORBIDDEN) {
            String whole = word.matches("\\w+") ? "\\b" + word + "\\b" : word;
            due.holds("no " + word + " in the source", !Pattern.compile(whole).matcher(source.code).find());
        }
        due.holds("signs of the source are 1 to 127", source.whole.chars().allMatch(sign -> sign > 0 && sign < 128));
    }

    private static void rules8And11Methods(Source source) {
        due.holds("that the methods were found", source.names().containsAll(Set.of("BoundaryAnalyzer", "setClass", "work",
                "faultOf", "firstClassOf", "walk", "waitAt", "build", "analyse", "stepForward")));
        for (Source.Body body : source.bodies) {
            due.holds(body.name() + " is short", body.lines().size() + 2 <= LONGEST_METHOD);
        }
        int depth = source.depthOfCalls();
        due.holds("that calls go at most eight deep, and none calls itself; they go " + depth + ", so it",
                depth > 3 && depth <= DEEPEST_CALL);
        for (Class<?> type : MAIN.getNestMembers()) {
            long fields = Arrays.stream(type.getDeclaredFields()).filter(field -> !Modifier.isStatic(field.getModifiers()))
                    .count();
            due.holds(type + " has few fields", fields <= MOST_FIELDS);
            for (Method method : type.getDeclaredMethods()) {
                due.holds(method + " has at most seven parameters", method.getParameterCount() <= MOST_PARAMETERS);
            }
        }
    }

    /** All calls share one room; a run could make an object with each of them. */
    private static void rule12Room(Source source) throws IllegalAccessException {
        for (Source.Body body : source.bodies) {
            due.holds(body.name() + " makes nothing, or is a constructor",
                    body.isConstructor() || !String.join("\n", body.lines()).matches("(?s).*\\bnew\\b.*"));
        }
        BoundaryAnalyzer x = new BoundaryAnalyzer();
        Room room = new Room(x);
        due.holds("objects, of which there are " + room.objects + ", have room", room.objects > 100
                && room.objects < ROOM_OF_OBJECTS / CALLS_OF_A_RUN);
        due.holds("fields, of which there are " + room.fields + ", have room", room.fields > 100
                && room.fields < ROOM_OF_FIELDS / CALLS_OF_A_RUN);
        use(x);
        Room then = new Room(x);
        due.answer("objects behind calls", then.objects, room.objects);
        due.answer("fields behind calls", then.fields, room.fields);
        bytesOfCalls();
    }

    private static void bytesOfCalls() {
        BoundaryAnalyzer x = new BoundaryAnalyzer();
        com.sun.management.ThreadMXBean threads =
                (com.sun.management.ThreadMXBean) ManagementFactory.getThreadMXBean();
        threads.getCurrentThreadAllocatedBytes();
        long before = threads.getCurrentThreadAllocatedBytes();
        use(x);
        long made = threads.getCurrentThreadAllocatedBytes() - before;
        due.holds("calls make no objects (bytes made: " + made + "), so that", made < 1000);
    }

    private static void use(BoundaryAnalyzer x) {
        x.type('A');
        x.type('+');
        x.type('/');
        x.type('.');
        x.addException();
        for (int i = 0; i < 50; i++) {
            x.setRule(i % 3, i % 5);
            x.insert(i / 2, (char) (32 + i));
            x.setClass('a', i % 12);
            x.longest(2);
            x.segmentsWith(2, 0);
            x.looksAt(1, i);
            x.erase(i / 3, i % 3);
            x.undo();
            x.redo();
        }
        x.removeException();
    }
}
