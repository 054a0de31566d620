import java.nio.file.Path;
import java.util.List;

/** The examples, as they stand in the document, call by call. */
public final class ExamplesTest {
    private static final int[] CALLS = {16, 15, 13, 16};

    private static final Due due = new Due();

    public static void main(String[] args) throws Exception {
        List<String> examples = new Document(Path.of("../shared/DOC.md")).examples();
        due.answer("the number of examples", examples.size(), CALLS.length);
        for (int i = 0; i < examples.size(); i++) {
            int calls = run(i + 1, examples.get(i));
            due.answer("the calls of example " + (i + 1), calls, i < CALLS.length ? CALLS[i] : 0);
        }
        due.end("ExamplesTest");
    }

    /** Makes the calls of an example, which are written call = answer; call = answer, and counts them. */
    private static int run(int example, String calls) throws ReflectiveOperationException {
        BoundaryAnalyzer x = new BoundaryAnalyzer();
        String[] all = calls.split("; ");
        for (String each : all) {
            int equals = each.lastIndexOf(" = ");
            String call = each.substring(0, equals);
            int want = Integer.parseInt(each.substring(equals + 3));
            due.answer(example + ": " + call, new WrittenCall(call).on(x), want);
        }
        return all.length;
    }
}
