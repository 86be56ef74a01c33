import java.io.IOException;
import java.nio.file.Path;
import java.util.List;
import java.util.function.Consumer;
import java.util.function.Supplier;

/**
 * The boundary tests as they run: each of them first names the sentence of the document that it holds
 * the class to, and every wrong answer is told with that sentence.
 */
final class Sentences {
    private static final Due DUE = new Due("BoundaryTest");

    private static Document document;
    private static String named = "";
    private static int asked = 1;

    private Sentences() {
    }

    static void begin() throws IOException {
        document = new Document(Path.of(System.getProperty("project.document", "../shared/DOC.md")));
    }

    /** Begins the test of a sentence; promise 0 is the description. */
    static void names(int promise, String sentence) {
        endLast();
        named = (promise == 0 ? "description" : "promise " + promise) + " '" + sentence + "': ";
        asked = 0;
        DUE.is(named + "stands in the document", document.name(promise, sentence) ? 1 : 0, 1);
    }

    private static void endLast() {
        DUE.is(named + "has answers to compare", asked > 0 ? 1 : 0, 1);
    }

    static void due(String call, long got, long want) {
        asked++;
        DUE.is(named + call, got, want);
    }

    /** That some calls leave an object as it would be without them. */
    static void changesNothing(Supplier<Subject> make, Consumer<Subject> calls) {
        Subject x = make.get();
        calls.accept(x);
        sameState(x, make.get());
    }

    static void sameState(Subject x, Subject other) {
        sameLines(State.of(x), State.of(other));
    }

    static void sameLines(List<String> got, List<String> want) {
        due("number of answers that tell the state", got.size(), want.size());
        for (int i = 0; i < Math.min(got.size(), want.size()); i++) {
            boolean same = got.get(i).equals(want.get(i));
            due("the state has " + got.get(i) + ", due is " + want.get(i) + "; equal", same ? 1 : 0, 1);
        }
    }

    static void end() {
        endLast();
        if (document.isRead()) {
            for (String sentence : document.notNamed()) {
                DUE.is("the sentence has no test: " + sentence, 0, 1);
            }
        } else {
            System.out.println("BoundaryTest: no document was read, so the sentences were not compared");
        }
        DUE.end();
    }
}
