import java.io.IOException;
import java.nio.file.Files;
import java.nio.file.Path;
import java.util.LinkedHashMap;
import java.util.Map;
import java.util.Set;
import java.util.regex.Matcher;
import java.util.regex.Pattern;

/** The rules of ../shared/LANGUAGE.md that can be seen in the text of the program. */
final class LanguageTest {
    private static final Path PROGRAM = Path.of("src/main/java/PromisedCounters.java");

    /** Words that the rules leave out, and some of the language that the program needs nowhere. */
    private static final Set<String> FORBIDDEN = Set.of("import", "package", "protected", "synchronized", "volatile",
            "transient", "native", "assert", "finally", "try", "catch", "var", "yield", "strictfp", "equals",
            "hashCode", "toString", "Object", "Double", "Float", "Character", "Thread", "Random", "Exception");

    private static final Set<String> LIBRARY = Set.of("Math.abs", "Math.min", "Math.max", "System.arraycopy");
    private static final Set<String> EXCEPTIONS = Set.of("IndexOutOfBoundsException", "IllegalArgumentException",
            "IllegalStateException");

    /** The head of a method, or of another block: how far it is to the right, its name, what stands in brackets. */
    private static final Pattern METHOD =
            Pattern.compile("(?m)^( +)(?:\\w+ )*\\w+ (\\w+)\\(([^()]*)\\)[^;{}]*\\{$");
    private static final int MOST_DEEP = 8;

    public static void main(String[] args) throws IOException {
        Runs runs = new Runs();
        String whole = Files.readString(PROGRAM);
        runs.due("signs of 1 to 127 alone", whole.chars().allMatch(c -> c >= 1 && c <= 127), true);
        String code = withoutTexts(whole);
        words(runs, code);
        calls(runs, code);
        exceptions(runs, code);
        methods(runs, code);
        depths(runs, code);
        runs.due("lambdas and method references", code.contains("->") || code.contains("::"), false);
        runs.due("annotations", code.contains("@"), false);
        runs.due("static blocks", Pattern.compile("static\\s*\\{").matcher(code).find(), false);
        runs.end();
    }

    /** The program without its comments, texts and signs in quotes. */
    private static String withoutTexts(String whole) {
        return whole.replaceAll("(?s)/\\*.*?\\*/", " ").replaceAll("//[^\n]*", " ")
                .replaceAll("\"[^\"\n]*\"", "TEXT").replaceAll("'[^'\n]'", "SIGN");
    }

    private static void words(Runs runs, String code) {
        Matcher word = Pattern.compile("[A-Za-z_]\\w*").matcher(code);
        while (word.find()) {
            runs.due("the word " + word.group() + " is left out", FORBIDDEN.contains(word.group()), false);
        }
    }

    private static void calls(Runs runs, String code) {
        Matcher call = Pattern.compile("\\b[A-Z][A-Za-z]*[a-z]\\.\\w+").matcher(code);
        while (call.find()) {
            runs.due(call.group() + " is in the library", LIBRARY.contains(call.group()), true);
        }
    }

    /** Each throw is of a new exception with a written text, none in a constructor. */
    private static void exceptions(Runs runs, String code) {
        Matcher thrown = Pattern.compile("\\bthrow\\b\\s*(\\S+)\\s*([^;]*);").matcher(code);
        while (thrown.find()) {
            runs.due("throw", thrown.group(1), "new");
            String name = thrown.group(2).replaceFirst("\\(TEXT\\)$", "");
            runs.due("throw new " + thrown.group(2), EXCEPTIONS.contains(name), true);
        }
        Matcher constructor = Pattern.compile("public PromisedCounters\\(\\) \\{[^}]*}").matcher(code);
        runs.due("the constructor is there", constructor.find(), true);
        runs.due("a throw in the constructor", constructor.group().contains("throw"), false);
    }

    /** Rule 11: some sixty lines and seven parameters at most. */
    private static void methods(Runs runs, String code) {
        Matcher head = METHOD.matcher(code);
        int found = 0;
        while (head.find()) {
            if (!isMethod(head)) {
                continue;
            }
            found++;
            long lines = wholeOf(head, code).chars().filter(c -> c == '\n').count() + 1;
            runs.due("the lines of " + head.group(2) + " are few", lines <= 60, true);
            runs.due("the parameters of " + head.group(2) + " are few", head.group(3).split(",").length <= 7, true);
        }
        runs.due("methods are found", found > 50, true);
    }

    private static boolean isMethod(Matcher head) {
        return !Set.of("if", "for", "while", "switch").contains(head.group(2));
    }

    /** A method from its head to the line of its last brace. */
    private static String wholeOf(Matcher head, String code) {
        return code.substring(head.start(), code.indexOf("\n" + head.group(1) + "}", head.end()) + 1);
    }

    /**
     * Rules 8 and 11: no recursion, and calls at most eight deep, those of the library with them. The names of
     * methods tell which one is called, so that no two methods may have the same.
     */
    private static void depths(Runs runs, String code) {
        Map<String, String> bodies = new LinkedHashMap<>();
        Matcher head = METHOD.matcher(code);
        while (head.find()) {
            if (isMethod(head)) {
                String body = wholeOf(head, code).substring(head.end() - head.start());
                runs.due("another method " + head.group(2), bodies.put(head.group(2), body) == null, true);
            }
        }
        for (String name : bodies.keySet()) {
            runs.due("the calls of " + name + " go eight deep at most", depthOf(name, bodies, 0) <= MOST_DEEP, true);
        }
    }

    /** How deep the calls of a method go, itself with them; a recursion is deeper than can be. */
    private static int depthOf(String name, Map<String, String> bodies, int above) {
        if (above > MOST_DEEP) {
            return 0;
        }
        int deepest = 0;
        Matcher call = Pattern.compile("\\b([A-Z]\\w*\\.)?([a-z]\\w*)\\(").matcher(bodies.get(name));
        while (call.find()) {
            boolean isOfLibrary = call.group(1) != null;
            if (isOfLibrary || bodies.containsKey(call.group(2))) {
                deepest = Math.max(deepest, isOfLibrary ? 1 : depthOf(call.group(2), bodies, above + 1));
            }
        }
        return 1 + deepest;
    }
}
