import java.util.List;
import java.util.Set;

/** A test of a sentence of the document, while it runs: what it quotes and what it checks. */
final class Sentence {
    private final String name;
    private final int number;
    private final Document document;
    private final Set<String> quoted;
    private final Due due;
    private int quotes;
    private int checks;

    Sentence(String name, int number, Document document, Set<String> quoted, Due due) {
        this.name = name;
        this.number = number;
        this.document = document;
        this.quoted = quoted;
        this.due = due;
    }

    /** Tells which sentence is tested; it must stand in the document, in the section of the test. */
    void says(String quote) {
        quotes++;
        quoted.add(quote);
        due.holds(name + ": that the document says '" + quote + "'", document.says(number, quote));
    }

    void answer(String call, long got, long want) {
        checks++;
        due.answer(name + ": " + call, got, want);
    }

    void same(String what, String got, String want) {
        checks++;
        due.holds(name + ": " + what + " is '" + got + "', due is '" + want + "', so it", got.equals(want));
    }

    void holds(String what, boolean held) {
        checks++;
        due.holds(name + ": " + what, held);
    }

    /** The call gives this answer, and nothing that can be seen is another one behind it. */
    void unchanged(String what, int want, Seen.Calls before, Seen.Call call) {
        BoundaryAnalyzer x = new BoundaryAnalyzer();
        before.on(x);
        answer(what, call.on(x), want);
        List<String> without = Seen.behind(before);
        List<String> with = Seen.behind(y -> {
            before.on(y);
            call.on(y);
        });
        answer(what + ": how much is seen", with.size(), without.size());
        for (int i = 0; i < with.size() && i < without.size(); i++) {
            if (!with.get(i).equals(without.get(i))) {
                same(what + ": then", with.get(i), without.get(i));
                return;
            }
        }
    }

    void end() {
        due.holds(name + ": that it quotes a sentence and checks something", quotes > 0 && checks > 0);
    }
}
