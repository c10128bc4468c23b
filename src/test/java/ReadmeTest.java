import java.io.IOException;
import java.lang.reflect.Method;
import java.lang.reflect.Modifier;
import java.nio.file.Files;
import java.nio.file.Path;
import java.util.Set;
import java.util.TreeSet;
import java.util.regex.Matcher;
import java.util.regex.Pattern;

/** The example of README.md answers what it says, and the README names each call. */
final class ReadmeTest {
    private static final Pattern CALL = Pattern.compile("counters\\.(\\w+\\(.*\\)); +// (throws \\w+|-?\\d+): .*");
    private static final Pattern TYPED = Pattern.compile("for \\(char sign : \"(\\S+)\".*");
    /** What is no call of its own: the object is new as it is, and the text is typed at once. */
    private static final Set<String> OTHERS = Set.of(
            "PromisedCounters counters = new PromisedCounters();", "counters.append(sign);", "}");

    public static void main(String[] args) throws IOException {
        Runs runs = new Runs();
        String readme = Files.readString(Path.of("README.md"));
        runs.on("the example", calls(runs, readme));
        runs.due("calls that it does not name", unnamed(readme), Set.of());
        runs.end();
    }

    /** The example's calls, as runs are written. */
    private static String calls(Runs runs, String readme) {
        int start = readme.indexOf("```java\n") + "```java\n".length();
        StringBuilder calls = new StringBuilder();
        for (String line : readme.substring(start, readme.indexOf("```", start)).split("\n")) {
            Matcher call = CALL.matcher(line);
            Matcher typed = TYPED.matcher(line);
            if (call.matches()) {
                boolean isRefused = call.group(2).startsWith("throws");
                calls.append(call.group(1)).append(isRefused ? " " : " = ").append(call.group(2)).append('\n');
            } else if (typed.matches()) {
                calls.append("type ").append(typed.group(1)).append('\n');
            } else {
                runs.due("whether the line is known: " + line, OTHERS.contains(line.strip()), true);
            }
        }
        runs.due("whether the example has calls", calls.length() > 0, true);
        return calls.toString();
    }

    private static Set<String> unnamed(String readme) {
        Set<String> unnamed = new TreeSet<>();
        for (Method method : PromisedCounters.class.getDeclaredMethods()) {
            boolean isPublic = Modifier.isPublic(method.getModifiers());
            if (isPublic && !readme.contains("`" + method.getName() + "`")) {
                unnamed.add(method.getName());
            }
        }
        return unnamed;
    }
}
