import java.lang.management.ManagementFactory;
import java.lang.reflect.Constructor;
import java.lang.reflect.Field;
import java.lang.reflect.Method;
import java.lang.reflect.Modifier;
import java.nio.file.Files;
import java.nio.file.Path;
import java.util.Arrays;
import java.util.Set;
import java.util.TreeSet;
import java.util.regex.Matcher;
import java.util.regex.Pattern;

/** The face of the class, and what can be seen of the language's rules without reading. */
public final class LanguageTest {
    private static final Due due = new Due();
    private static final String SOURCE = "src/main/java/BoundaryAnalyzer.java";

    private static final String[] FACE = {"setClass(char,int)", "classOf(char)", "type(char)", "clearPattern()",
        "setRule(int,int)", "ruleText(int,int,int)", "matchLength(int,int,int)", "addException()", "removeException()",
        "insert(int,char)", "erase(int,int)", "undo()", "redo()", "charAt(int)", "value(int)", "boundaryAt(int,int)",
        "next(int,int)", "previous(int,int)", "segmentCount(int)", "segment(int,int)", "longest(int)",
        "segmentsWith(int,int)", "looksAt(int,int)", "work(int)"};

    private static final String[] FORBIDDEN = {"throw", "try", "catch", "synchronized", "assert", "protected", "native",
        "volatile", "Object", "Exception", "System\\.(?!arraycopy)\\w+", "->", "::", "String\\.", "Map", "HashMap"};

    public static void main(String[] args) throws Exception {
        face();
        constants();
        members();
        words(Files.readString(Path.of(SOURCE)));
        roomOfCalls();
        due.end("LanguageTest");
    }

    private static void face() {
        Class<?> type = BoundaryAnalyzer.class;
        due.holds("the class is public and final",
                Modifier.isPublic(type.getModifiers()) && Modifier.isFinal(type.getModifiers()));
        Constructor<?>[] constructors = type.getDeclaredConstructors();
        due.holds("one constructor, public, without arguments", constructors.length == 1
                && Modifier.isPublic(constructors[0].getModifiers()) && constructors[0].getParameterCount() == 0);
        Set<String> open = new TreeSet<>();
        Set<String> names = new TreeSet<>();
        for (Method method : type.getDeclaredMethods()) {
            if (Modifier.isPublic(method.getModifiers())) {
                names.add(method.getName());
                String types = String.join(",", Arrays.stream(method.getParameterTypes()).map(Class::getName).toList());
                open.add(method.getName() + "(" + types + ")");
                due.holds(method + " answers an int and is of the object",
                        method.getReturnType() == int.class && !Modifier.isStatic(method.getModifiers()));
            }
        }
        due.holds("the public methods are those of the document", open.equals(new TreeSet<>(Set.of(FACE))));
        for (Method method : type.getDeclaredMethods()) {
            due.holds(method + " is public or private, and not both by one name", Modifier.isPublic(method.getModifiers())
                    || (Modifier.isPrivate(method.getModifiers()) && !names.contains(method.getName())));
        }
    }

    private static void constants() throws Exception {
        String[] names = {"NO_SUCH_POSITION", "BAD_VALUE", "FULL", "NOT_NEW", "NONE"};
        for (int i = 0; i < names.length; i++) {
            Field field = BoundaryAnalyzer.class.getField(names[i]);
            due.answer(names[i], field.getInt(null), -1 - i);
            due.holds(names[i] + " is final", Modifier.isFinal(field.getModifiers()));
        }
        due.answer("public fields", BoundaryAnalyzer.class.getFields().length, names.length);
    }

    private static void members() {
        for (Field field : BoundaryAnalyzer.class.getDeclaredFields()) {
            int modifiers = field.getModifiers();
            due.holds(field + " is a constant, or private", Modifier.isPrivate(modifiers) || Modifier.isStatic(modifiers));
            due.holds(field + " is final, if it is static", Modifier.isFinal(modifiers) || !Modifier.isStatic(modifiers));
        }
        Class<?>[] inside = BoundaryAnalyzer.class.getDeclaredClasses();
        due.holds("at most some twelve classes", inside.length <= 12);
        for (Class<?> type : inside) {
            due.holds(type + " is static", Modifier.isStatic(type.getModifiers()));
            due.holds(type + " has few fields", type.getDeclaredFields().length <= 20);
            for (Method method : type.getDeclaredMethods()) {
                due.holds(method + " has at most seven parameters", method.getParameterCount() <= 7);
            }
        }
    }

    private static void words(String source) {
        String code = source.replaceAll("(?s)/\\*.*?\\*/", " ").replaceAll("//[^\n]*", " ");
        for (String word : FORBIDDEN) {
            String whole = Character.isLetter(word.charAt(0)) ? "\\b" + word + (word.endsWith("w+") ? "" : "\\b") : word;
            Matcher found = Pattern.compile(whole).matcher(code);
            due.holds("no " + word + " in the source", !found.find());
        }
        due.holds("nothing is imported but Arrays", code.replace("import java.util.Arrays;", "").indexOf("import") < 0);
        due.holds("signs of the source are 1 to 127", source.chars().allMatch(sign -> sign > 0 && sign < 128));
    }

    /** All calls share one room, so none of them may make objects. */
    private static void roomOfCalls() {
        use(new BoundaryAnalyzer());
        BoundaryAnalyzer x = new BoundaryAnalyzer();
        com.sun.management.ThreadMXBean threads =
                (com.sun.management.ThreadMXBean) ManagementFactory.getThreadMXBean();
        threads.getCurrentThreadAllocatedBytes();
        long before = threads.getCurrentThreadAllocatedBytes();
        use(x);
        long made = threads.getCurrentThreadAllocatedBytes() - before;
        due.holds("calls make no objects (bytes made: " + made + "), so that", made < 1000);
    }

    private static void use(BoundaryAnalyzer x) {
        x.type('A');
        x.type('+');
        x.type('/');
        x.type('.');
        x.addException();
        for (int i = 0; i < 50; i++) {
            x.setRule(i % 3, i % 5);
            x.insert(i / 2, (char) (32 + i));
            x.setClass('a', i % 12);
            x.longest(2);
            x.segmentsWith(2, 0);
            x.looksAt(1, i);
            x.erase(i / 3, i % 3);
            x.undo();
            x.redo();
        }
        x.removeException();
    }
}
