import java.lang.reflect.Method;
import java.util.ArrayList;
import java.util.List;
import java.util.regex.Matcher;
import java.util.regex.Pattern;

/** A call as a text writes it, such as next(1, 0) or type('A'), so that it can be made. */
final class WrittenCall {
    private static final String ARGUMENT = "'.'|-?\\d+";
    static final String FORM = "(\\w+)\\(((?:(?:" + ARGUMENT + ")(?:, )?)*)\\)";
    private static final Pattern WHOLE = Pattern.compile(FORM);

    private final String name;
    private final List<Object> arguments = new ArrayList<>();

    WrittenCall(String written) {
        Matcher whole = WHOLE.matcher(written);
        if (!whole.matches()) {
            throw new IllegalArgumentException("not a call: " + written);
        }
        name = whole.group(1);
        Matcher each = Pattern.compile(ARGUMENT).matcher(whole.group(2));
        while (each.find()) {
            String argument = each.group();
            if (argument.startsWith("'")) {
                arguments.add(argument.charAt(1));
            } else {
                arguments.add(Integer.parseInt(argument));
            }
        }
    }

    String name() {
        return name;
    }

    int on(BoundaryAnalyzer x) throws ReflectiveOperationException {
        for (Method method : BoundaryAnalyzer.class.getMethods()) {
            if (method.getName().equals(name) && method.getParameterCount() == arguments.size()) {
                return (Integer) method.invoke(x, arguments.toArray());
            }
        }
        throw new NoSuchMethodException(name);
    }
}
