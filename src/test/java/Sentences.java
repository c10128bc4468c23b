import java.io.IOException;
import java.nio.file.Files;
import java.nio.file.Path;
import java.util.ArrayList;
import java.util.LinkedHashSet;
import java.util.List;
import java.util.Set;
import java.util.regex.Matcher;
import java.util.regex.Pattern;

/**
 * The sentences of the document's terms and promises, each with its place: the heading in the terms, or the
 * number of the promise. "17: `counter`: 0 to 3" is such a one.
 */
final class Sentences {
    private static final Path DOCUMENT = Path.of("../shared/DOC.md");
    private static final Pattern PROMISE = Pattern.compile("## Promise (\\d+): .*");
    private static final Pattern HEADING = Pattern.compile("#+ (.*)|([A-Z][a-z, ]*)");
    private static final String FIRST_PLACE = "Terms";

    private final Set<String> all = new LinkedHashSet<>();
    private final Set<String> untested;

    Sentences() throws IOException {
        String place = "";
        for (String line : Files.readAllLines(DOCUMENT)) {
            place = placeBehind(place, line);
            if (isTold(place, line)) {
                for (String sentence : split(line)) {
                    all.add(place + ": " + sentence);
                }
            }
        }
        untested = new LinkedHashSet<>(all);
    }

    /** Whether the document has this sentence at this place; it has a test then. */
    boolean takes(String place, String sentence) {
        untested.remove(place + ": " + sentence);
        return all.contains(place + ": " + sentence);
    }

    List<String> untested() {
        return new ArrayList<>(untested);
    }

    /** The terms and the promises have places, what stands before and behind them has none. */
    private static String placeBehind(String before, String line) {
        Matcher promise = PROMISE.matcher(line);
        if (promise.matches()) {
            return promise.group(1);
        }
        Matcher heading = HEADING.matcher(line);
        if (!heading.matches()) {
            return before;
        }
        String name = heading.group(1) == null ? heading.group(2) : heading.group(1);
        boolean isInTerms = !before.isEmpty() && !line.startsWith("## ");
        return isInTerms || name.equals(FIRST_PLACE) ? name : "";
    }

    private static boolean isTold(String place, String line) {
        return !place.isEmpty() && !line.isBlank() && !HEADING.matcher(line).matches();
    }

    private static String[] split(String line) {
        if (line.startsWith("- ")) {
            return new String[] {line.substring(2)};
        }
        boolean isFace = line.startsWith("`");
        String told = isFace ? line.substring(line.indexOf("`: ") + 3) : line;
        return told.split("(?<=[.)])\\s+(?=[A-Z(])");
    }
}
