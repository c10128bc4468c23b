import java.io.IOException;
import java.util.List;

/** Tests by sentences: each stands under the place and the words of the sentence of the document that it is for. */
final class Edges {
    static final String INDEX = "IndexOutOfBoundsException";
    static final String ARGUMENT = "IllegalArgumentException";
    static final String STATE = "IllegalStateException";

    private final Runs runs = new Runs();
    private final Sentences sentences = new Sentences();

    Edges() throws IOException {
    }

    /** Runs the calls on a new object. */
    void of(String place, String sentence, String calls) {
        of(place, List.of(sentence), calls);
    }

    /** For sentences that say the same, or that no answer tells apart. */
    void of(String place, List<String> told, String calls) {
        for (String sentence : told) {
            takes(place, sentence);
        }
        runs.on(place + ": " + told.get(0), calls);
    }

    /** On a new object, behind the calls before: the call throws with each of the values in the place of "#". */
    void outside(String place, String sentence, String before, String call, String exception, int... values) {
        StringBuilder calls = new StringBuilder(before);
        for (int value : values) {
            calls.append(call.replace("#", String.valueOf(value))).append(" throws ").append(exception).append('\n');
        }
        of(place, sentence, calls.toString());
    }

    void due(String place, String sentence, String what, Object got, Object want) {
        takes(place, sentence);
        runs.due(place + ": " + sentence + ": " + what, got, want);
    }

    /** Ends the test; each sentence of the document must have had one. */
    void end() {
        runs.due("sentences without a test", sentences.untested(), List.of());
        runs.end();
    }

    private void takes(String place, String sentence) {
        runs.due("the document says: " + place + ": " + sentence, sentences.takes(place, sentence), true);
    }
}
