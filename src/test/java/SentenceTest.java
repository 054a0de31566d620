import java.lang.reflect.InvocationTargetException;
import java.lang.reflect.Method;
import java.nio.file.Path;
import java.util.Arrays;
import java.util.Comparator;
import java.util.HashMap;
import java.util.HashSet;
import java.util.Map;
import java.util.Set;

/**
 * Runs the tests of single sentences. Each is a method whose name tells the promise (or that it is
 * about the description), and which quotes the sentence. Sentences that no test quotes are a fault, too.
 */
public final class SentenceTest {
    private static final Class<?>[] TESTS =
            {SentencesOnRules.class, SentencesOnText.class, SentencesOnBoundaries.class, SentencesOnDescription.class};

    private final Due due = new Due();
    private final Document document;
    private final Map<Integer, Set<String>> quoted = new HashMap<>();
    private int tests;

    private SentenceTest(Document document) {
        this.document = document;
        for (int number = 0; number <= Document.PROMISES; number++) {
            quoted.put(number, new HashSet<>());
        }
    }

    public static void main(String[] args) throws Exception {
        SentenceTest all = new SentenceTest(new Document(Path.of("../shared/DOC.md")));
        for (Class<?> type : TESTS) {
            all.runTests(type);
        }
        for (int number = 0; number <= Document.PROMISES; number++) {
            all.findUntested(number);
        }
        System.out.println("SentenceTest: " + all.tests + " tests of sentences");
        all.due.end("SentenceTest");
    }

    private void runTests(Class<?> type) throws IllegalAccessException {
        Method[] methods = type.getDeclaredMethods();
        Arrays.sort(methods, Comparator.comparing(Method::getName));
        for (Method method : methods) {
            int number = numberOf(method.getName());
            if (number >= 0) {
                runTest(method, number);
            }
        }
    }

    /** The promise that a test is about, Document.DESCRIPTION, or -1 if it is no test. */
    private static int numberOf(String name) {
        if (name.matches("promise\\d\\d.*")) {
            return Integer.parseInt(name.substring(7, 9));
        }
        return name.startsWith("description") ? Document.DESCRIPTION : -1;
    }

    private void runTest(Method method, int number) throws IllegalAccessException {
        tests++;
        Sentence sentence = new Sentence(method.getName(), number, document, quoted.get(number), due);
        try {
            method.invoke(null, sentence);
        } catch (InvocationTargetException thrown) {
            due.holds(method.getName() + ": threw " + thrown.getCause() + ", that it throws nothing", false);
        }
        sentence.end();
    }

    private void findUntested(int number) {
        for (String piece : document.pieces(number)) {
            boolean tested = quoted.get(number).stream().anyMatch(quote -> covers(number, quote, piece));
            due.holds("that '" + piece + "' of " + (number == 0 ? "the description" : "promise " + number) + " is tested",
                    tested);
        }
    }

    /** A long sentence of the description may be tested part by part. */
    private static boolean covers(int number, String quote, String piece) {
        return quote.contains(piece) || (number == Document.DESCRIPTION && piece.contains(quote));
    }
}
