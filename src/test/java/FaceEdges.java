import java.io.IOException;
import java.nio.file.Files;
import java.nio.file.Path;
import java.util.ArrayList;
import java.util.LinkedHashMap;
import java.util.List;
import java.util.Map;
import java.util.regex.Matcher;
import java.util.regex.Pattern;

/** The sentences on what the interface says ahead of the calls: the program has these lines, at these places. */
final class FaceEdges {
    private static final Path PROGRAM = Path.of("src/main/java/PromisedCounters.java");
    private static final String PLACE = "Exceptions";
    private static final Pattern LINE = Pattern.compile("    // (---- .*)");
    private static final Pattern CALL = Pattern.compile("    public \\w+ (\\w+)\\(.*");

    private final Map<String, List<String>> callsBehind = new LinkedHashMap<>();

    private FaceEdges() throws IOException {
        String told = "";
        for (String line : Files.readAllLines(PROGRAM)) {
            Matcher ahead = LINE.matcher(line);
            Matcher call = CALL.matcher(line);
            if (ahead.matches()) {
                told = ahead.group(1);
            } else if (call.matches()) {
                callsBehind.computeIfAbsent(told, each -> new ArrayList<>()).add(call.group(1));
            }
        }
    }

    static void run(Edges edges) throws IOException {
        FaceEdges face = new FaceEdges();
        face.says(edges, "---- counters", "bounds", "set");
        face.says(edges, "---- promises", "promise", "transfer", "settle", "settlePart", "cancel", "renew", "finish",
                "pass");
        face.says(edges, "---- texts", "append", "clearBuffer", "firstError", "promiseAll", "undo");
        face.says(edges, "---- looks; nothing is changed", "counter", "promiseOf", "owner", "count", "setting");
        face.says(edges, "---- what would be; nothing is changed", "whyNot", "canBe", "mostFor", "ifPassed",
                "heldShare", "digest");
    }

    private void says(Edges edges, String told, String... calls) {
        String sentence = "Ahead of the calls `" + String.join("`, `", calls) + "` the interface says: " + told + ".";
        edges.due(PLACE, sentence, "the calls behind it", callsBehind.get(told), List.of(calls));
    }
}
