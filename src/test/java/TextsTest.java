/** Promises 12 to 16: append, clearBuffer, firstError, promiseAll, undo. */
final class TextsTest {
    public static void main(String[] args) {
        Runs runs = new Runs();
        append(runs);
        clearBuffer(runs);
        firstError(runs);
        promiseAll(runs);
        incomplete(runs);
        undo(runs);
        runs.end();
    }

    private static void append(Runs runs) {
        runs.on("12: the codes to both ends", """
                append(33) = 1
                append(126) = 2
                append(32) throws IllegalArgumentException
                append(127) throws IllegalArgumentException
                append(-2147483648) throws IllegalArgumentException
                append(65569) throws IllegalArgumentException
                append(48) = 3
                count(9) = 0
                """);
        runs.on("12: at most 60 characters", "type " + "0+1;".repeat(14) + """
                0+1
                append(59) = 60
                append(59) throws IllegalStateException
                append(32) throws IllegalArgumentException
                firstError() = 60
                clearBuffer() = 60
                append(59) = 1
                """);
    }

    private static void clearBuffer(Runs runs) {
        runs.on("13: answers the length that it had", """
                type 0+1
                clearBuffer() = 3
                clearBuffer() = 0
                count(9) = 0
                append(49) = 1
                firstError() = 1
                """);
    }

    private static void firstError(Runs runs) {
        firstErrors(runs, 0, "4", "+", ";", "o", "a", "/", ":", "-1", ";0+1");
        firstErrors(runs, 1, "0", "0;", "0:", "0o", "00", "0=1", "3,");
        firstErrors(runs, 2, "0>", "0>0", "0>/", "1>1:5", "0>4", "0>:", "0+0", "0-+", "0+;", "2-:", "1+a");
        firstErrors(runs, 3, "0>1", "0>1+", "0>1;", "0+1/", "0-1!", "0>1o", "0>15", "0+1", "0+1:", "0+1+", "0-1>");
        firstErrors(runs, 4, "0>1:", "0>1:0", "0>1:;", "0+10", "0+100", "0-99:", "0+1o", "0+1o6", "0+1o;", "0+5;",
                "0+5;;", "0+5;4", "0+1o/");
        firstErrors(runs, 5, "0+1o0", "0+1o0o", "0+1o5", "0+1o55", "0+1o5o", "0+1o5+", "0+99o", "0+99o:", "0+99;", "3>2:9", "3>2:9:",
                "0+1;0", "0+1;0;");
        firstErrors(runs, 6, "3>2:90", "3>2:900", "0>1:9o", "0>1:9o9", "0>1:9;", "0>1:9;a");
        firstErrors(runs, 12, "0>1:10o3;3-9", "0>1:10o3;3-9+", "2>1:10o3;3-9>");
        firstErrors(runs, 0, "", "~", "!");
    }

    /** Each text is cut behind the place that is due, so that the same text is asked without its rest, too. */
    private static void firstErrors(Runs runs, int want, String... texts) {
        for (String text : texts) {
            PromisedCounters counters = new PromisedCounters();
            for (int i = 0; i < text.length(); i++) {
                counters.append(text.charAt(i));
                runs.due("14: firstError of " + text.substring(0, i + 1), counters.firstError(), Math.min(i + 1, want));
            }
            runs.due("14: firstError of " + text, counters.firstError(), Math.min(text.length(), want));
        }
    }

    private static void promiseAll(Runs runs) {
        runs.on("15: parts with and without owner, of one digit and of two", """
                bounds(3, -99, 99) = 100
                bounds(2, -99, 99) = 100
                type 0+5;1+99o5;2>3:1;3-10o1;3>0:42o2
                firstError() = 32
                promiseAll() = 5
                clearBuffer() = 0
                promiseOf(0, 0) = 0
                promiseOf(0, 1) = 0
                promiseOf(0, 2) = 5
                promiseOf(0, 3) = -1
                promiseOf(1, 0) = 5
                promiseOf(1, 1) = 1
                promiseOf(1, 2) = 99
                promiseOf(1, 3) = -1
                promiseOf(2, 0) = 0
                promiseOf(2, 1) = 2
                promiseOf(2, 2) = -1
                promiseOf(2, 3) = 3
                promiseOf(3, 0) = 1
                promiseOf(3, 1) = 3
                promiseOf(3, 2) = -10
                promiseOf(3, 3) = -1
                promiseOf(4, 0) = 2
                promiseOf(4, 1) = 3
                promiseOf(4, 2) = -42
                promiseOf(4, 3) = 0
                promiseOf(4, 4) = 10
                count(3) = 5
                count(9) = 3
                undo() = 2
                count(1) = 0
                clearBuffer() = 0
                """);
        runs.on("15: up to the first refused one, also if those behind it could be", """
                type 1+60;1+41;1+40
                promiseAll() = 1
                count(1) = 1
                clearBuffer() = 0
                count(9) = 1
                type 1+41o3
                promiseAll() = 0
                count(9) = 2
                clearBuffer() = 0
                undo() = 1
                undo() = 0
                count(1) = 0
                """);
    }

    private static void incomplete(Runs runs) {
        for (String text : new String[] {"0", "0+", "0>", "0>1", "0>1:", "0+1o", "0+1;", "0+1;2", "0+1,0+1", "0+100", "x"}) {
            runs.on("15: " + text + " is not complete", "type " + text + """

                    promiseAll() throws IllegalArgumentException
                    count(1) = 0
                    count(9) = 0
                    clearBuffer() =\s""" + text.length());
        }
        runs.on("15: an empty buffer is not complete", "promiseAll() throws IllegalArgumentException");
    }

    private static void undo(Runs runs) {
        runs.on("16: at most 6 states, the oldest one is dropped first", """
                promise(0, 0, 1) = 0
                promise(0, 0, 2) = 1
                set(0, 9) = 6
                set(0, 10) = 9
                pass(1) = 0
                settle(0) = 1
                cancel(0) = 0
                bounds(1, 0, 9) = 100
                count(9) = 6
                undo() = 5
                counter(1, 2) = 100
                undo() = 4
                count(1) = 1
                count(5) = 0
                undo() = 3
                counter(0, 0) = 0
                owner(0, 1) = 0
                undo() = 2
                count(0) = 0
                undo() = 1
                setting(0) = 9
                undo() = 0
                setting(0) = 6
                count(1) = 2
                count(3) = 2
                undo() throws IllegalStateException
                count(1) = 2
                """);
        runs.on("16: the buffer and its length stay, and saving goes on behind it", """
                promise(0, 0, 1) = 0
                type 0+1
                pass(10) = 1
                undo() = 1
                owner(0, 3) = 0
                count(6) = 0
                count(1) = 1
                promiseOf(0, 5) = 10
                clearBuffer() = 3
                renew(0) = 0
                count(9) = 2
                undo() = 1
                undo() = 0
                count(3) = 0
                """);
        runs.on("16: all of the state comes back", """
                bounds(0, -20, 80) = 100
                transfer(1, 0, 3, 4) = 0
                pass(2) = 0
                promise(2, 1, 6) = 1
                promise(3, 2, 7) = 2
                bounds(0, -10, 50) = 100
                finish(1, true) = 1
                cancel(0) = 1
                set(1, 4) = 10
                renew(0) = -6
                pass(4) = 1
                transfer(4, 0, 2, 5) = 0
                undo() = 5
                count(1) = 0
                undo() = 4
                count(0) = 2
                count(6) = 0
                owner(3, 3) = 0
                promiseOf(0, 0) = 3
                promiseOf(0, 1) = 2
                promiseOf(0, 2) = 7
                promiseOf(0, 3) = -1
                promiseOf(0, 4) = 6
                undo() = 3
                promiseOf(0, 4) = 12
                setting(1) = 4
                undo() = 2
                setting(1) = 10
                undo() = 1
                promiseOf(0, 0) = 2
                promiseOf(0, 1) = 1
                promiseOf(0, 2) = 6
                owner(2, 2) = 0
                undo() = 0
                promiseOf(0, 0) = 1
                promiseOf(0, 1) = 0
                promiseOf(0, 2) = -4
                promiseOf(0, 3) = 3
                promiseOf(0, 4) = 10
                promiseOf(1, 3) = -1
                promiseOf(1, 4) = 12
                counter(0, 0) = 0
                counter(3, 0) = 0
                owner(1, 1) = 0
                counter(0, 1) = -10
                count(3) = 3
                """);
        runs.on("16: the bounds come back", """
                bounds(0, -20, 80) = 100
                bounds(0, -10, 50) = 100
                undo() = 1
                counter(0, 1) = -20
                counter(0, 2) = 80
                undo() = 0
                counter(0, 1) = 0
                counter(0, 2) = 100
                """);
        runs.on("16: a call that throws saves nothing, one that changes nothing does", """
                set(0, 6) = 6
                bounds(0, 0, 100) = 100
                finish(0, true) = 0
                finish(9, true) throws IndexOutOfBoundsException
                settle(0) throws IndexOutOfBoundsException
                count(9) = 3
                undo() = 2
                undo() = 1
                undo() = 0
                """);
    }
}
