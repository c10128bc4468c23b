import java.lang.reflect.InvocationTargetException;
import java.lang.reflect.Method;
import java.util.Set;

/**
 * Runs of calls that are written as texts, each on a new object, a call a line:
 * "name(arguments) = answer" or "name(arguments) throws Exception"; "type 0+5" appends the
 * characters one by one, "undone name(arguments)" calls and undoes it. A call that throws, or that
 * only looks, must leave the digest as it was.
 */
final class Runs {
    private static final Set<String> LOOKS = Set.of("firstError", "counter", "promiseOf", "owner", "count",
            "setting", "whyNot", "canBe", "mostFor", "ifPassed", "heldShare", "digest");

    /** What later calls answer is free. */
    private static final int MOST_CALLS = 512;

    private int ran = 0;
    private int wrong = 0;
    private int calls = 0;

    /** Runs the calls on a new object. */
    void on(String name, String lines) {
        PromisedCounters counters = new PromisedCounters();
        calls = 0;
        int line = 0;
        for (String text : lines.split("\n")) {
            line++;
            if (!text.isBlank()) {
                runLine(counters, name + ", line " + line, text.strip());
            }
        }
        due(name + ": whether the calls are too many for an object", calls > MOST_CALLS, false);
    }

    /** Tells of an answer that is not the one that is due. */
    void due(String call, Object got, Object want) {
        ran++;
        if (!want.equals(got)) {
            wrong++;
            System.out.println(call + " answered " + got + ", due is " + want);
        }
    }

    /** Ends the test: with 1 if an answer was wrong, and if there was none at all. */
    void end() {
        System.out.println(ran + " answers, " + wrong + " wrong");
        if (wrong != 0 || ran == 0) {
            System.exit(1);
        }
    }

    private void runLine(PromisedCounters counters, String place, String text) {
        if (text.startsWith("type ")) {
            type(counters, place, text.substring("type ".length()));
            return;
        }
        if (text.startsWith("undone ")) {
            undone(counters, place, text.substring("undone ".length()));
            return;
        }
        int behindCall = text.indexOf(')') + 1;
        String call = text.substring(0, behindCall);
        String want = text.substring(behindCall).strip().replaceFirst("^= ", "");
        long before = digest(counters);
        String got = counted(counters, call);
        due(place + ": " + call, got, want);
        boolean isLook = LOOKS.contains(call.substring(0, call.indexOf('(')));
        if (isLook || got.startsWith("throws")) {
            due(place + ": the digest behind " + call, digest(counters), before);
        }
    }

    private void type(PromisedCounters counters, String place, String signs) {
        due(place + ": the length before", counted(counters, "clearBuffer()"), "0");
        for (int i = 0; i < signs.length(); i++) {
            due(place + ": append", counted(counters, "append(" + (int) signs.charAt(i) + ")"), String.valueOf(i + 1));
        }
    }

    /** The call saves one state more, and undo brings back all of the one from before it. */
    private void undone(PromisedCounters counters, String place, String call) {
        String saved = counted(counters, "count(9)");
        long before = digest(counters);
        String got = counted(counters, call);
        due(place + ": whether " + call + " answers", got.startsWith("throws"), false);
        String oneMore = String.valueOf(Integer.parseInt(saved) + 1);
        due(place + ": saved behind " + call, counted(counters, "count(9)"), oneMore);
        due(place + ": undo behind " + call, counted(counters, "undo()"), saved);
        due(place + ": the digest, " + call + " undone", digest(counters), before);
    }

    private String counted(PromisedCounters counters, String call) {
        calls++;
        return answer(counters, call);
    }

    private long digest(PromisedCounters counters) {
        calls++;
        return counters.digest();
    }

    /** What an object answers to a call that is written as a text. */
    static String answer(Object object, String call) {
        String name = call.substring(0, call.indexOf('('));
        String inside = call.substring(name.length() + 1, call.length() - 1).strip();
        String[] words = inside.isEmpty() ? new String[0] : inside.split("\\s*,\\s*");
        try {
            return String.valueOf(methodOf(object, name).invoke(object, arguments(words)));
        } catch (InvocationTargetException thrown) {
            return "throws " + thrown.getCause().getClass().getSimpleName();
        } catch (IllegalAccessException hidden) {
            throw new IllegalStateException(hidden);
        }
    }

    private static Method methodOf(Object object, String name) {
        for (Method method : object.getClass().getMethods()) {
            if (method.getName().equals(name)) {
                return method;
            }
        }
        throw new IllegalStateException("no method " + name);
    }

    private static Object[] arguments(String[] words) {
        Object[] values = new Object[words.length];
        for (int i = 0; i < words.length; i++) {
            boolean isTruth = words[i].equals("true") || words[i].equals("false");
            values[i] = isTruth ? (Object) Boolean.valueOf(words[i]) : (Object) Integer.valueOf(words[i]);
        }
        return values;
    }
}
