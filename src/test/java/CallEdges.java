import java.util.List;

/** The sentences of the terms on undo and exceptions, which are for many calls. */
final class CallEdges {
    private static final String UNDO = "Undo";
    private static final String EXCEPTIONS = "Exceptions";

    private static final String SAVES = "Each method that is marked \"undoable\" and does not throw an exception saves "
            + "the state from before it (also if it changes nothing): all, also what is counted so far, but the buffer "
            + "and the saved states.";
    private static final String AT_MOST_6 = "At most 6 states are saved; the oldest one is dropped first.";
    private static final String CHANGES_NOTHING = "A call that throws an exception changes nothing.";
    private static final String NAMED_FIRST = "If several exceptions apply, the one that is named first in the throws "
            + "clause is thrown.";

    /** Every call that throws, behind SIX_SAVED. */
    private static final String THROWING = """
            bounds(4, 0, 100) throws IndexOutOfBoundsException
            bounds(0, 5, 4) throws IllegalArgumentException
            bounds(0, 0, 6) throws IllegalStateException
            set(2, 1) throws IndexOutOfBoundsException
            set(0, 17) throws IllegalArgumentException
            promise(6, 0, 1) throws IndexOutOfBoundsException
            promise(0, 0, 0) throws IllegalArgumentException
            promise(0, 0, -1) throws IllegalStateException
            transfer(0, 1, 4, 1) throws IndexOutOfBoundsException
            transfer(0, 1, 1, 1) throws IllegalArgumentException
            transfer(0, 1, 2, 1) throws IllegalStateException
            settle(2) throws IndexOutOfBoundsException
            settlePart(2, 1) throws IndexOutOfBoundsException
            settlePart(0, 7) throws IllegalArgumentException
            cancel(2) throws IndexOutOfBoundsException
            renew(2) throws IndexOutOfBoundsException
            finish(6, true) throws IndexOutOfBoundsException
            finish(-1, false) throws IndexOutOfBoundsException
            pass(100) throws IllegalArgumentException
            append(32) throws IllegalArgumentException
            promiseAll() throws IllegalArgumentException
            counter(4, 0) throws IndexOutOfBoundsException
            counter(0, 10) throws IllegalArgumentException
            promiseOf(2, 0) throws IndexOutOfBoundsException
            promiseOf(0, 6) throws IllegalArgumentException
            owner(6, 0) throws IndexOutOfBoundsException
            owner(0, 5) throws IllegalArgumentException
            count(10) throws IllegalArgumentException
            setting(2) throws IndexOutOfBoundsException
            whyNot(6, 0, 1) throws IndexOutOfBoundsException
            whyNot(0, 0, 0) throws IllegalArgumentException
            canBe(4, 0) throws IndexOutOfBoundsException
            mostFor(0, 4, true) throws IndexOutOfBoundsException
            ifPassed(201, 0) throws IllegalArgumentException
            """;
    /** Six states are saved, "0+" stands in the buffer. */
    private static final String SIX_SAVED = """
            promise(0, 0, 7) = 0
            promise(1, 1, 8) = 1
            pass(1) = 0
            set(0, 2) = 6
            set(1, 9) = 10
            bounds(3, 0, 50) = 100
            type 0+
            """;
    private static final String SIX_UNDONE = """
            clearBuffer() = 2
            undo() = 5
            counter(3, 2) = 100
            setting(1) = 9
            undo() = 4
            setting(1) = 10
            setting(0) = 2
            undo() = 3
            setting(0) = 6
            count(0) = 1
            undo() = 2
            count(0) = 0
            count(1) = 2
            undo() = 1
            count(1) = 1
            undo() = 0
            count(1) = 0
            undo() throws IllegalStateException
            """;

    static void run(Edges edges) {
        savesStates(edges);
        savesAll(edges);
        leavesBufferAndSaved(edges);
        atMostSix(edges);
        throwsAndChangesNothing(edges);
        throwsTheFirst(edges);
    }

    private static void savesStates(Edges edges) {
        edges.of(UNDO, SAVES, """
                bounds(0, -50, 50) = 100
                undone bounds(0, -1, 1)
                undone bounds(0, -50, 50)
                undone set(0, 1)
                undone set(1, 1)
                undone set(0, 6)
                undone promise(0, 0, -50)
                undone transfer(5, 0, 1, 50)
                promise(1, 0, 10) = 0
                transfer(2, 0, 1, 20) = 1
                undone settle(0)
                undone settle(1)
                undone settlePart(0, 9)
                undone settlePart(1, 1)
                undone cancel(0)
                undone renew(0)
                pass(1) = 0
                undone renew(0)
                undone finish(1, true)
                undone finish(2, false)
                undone finish(3, true)
                undone finish(3, false)
                undone pass(1)
                undone pass(99)
                count(9) = 4
                """);
        edges.of(UNDO, SAVES, """
                type 0+1
                firstError() = 3
                counter(0, 9) = 1
                owner(0, 4) = 0
                count(8) = -1
                setting(0) = 6
                whyNot(0, 0, 1) = 0
                canBe(0, 0) = 0
                mostFor(0, 0, true) = 99
                ifPassed(5, 0) = 0
                heldShare() = 0.0
                promise(6, 0, 1) throws IndexOutOfBoundsException
                bounds(0, 1, 0) throws IllegalArgumentException
                promise(0, 0, -1) throws IllegalStateException
                clearBuffer() = 3
                promiseAll() throws IllegalArgumentException
                count(9) = 0
                undo() throws IllegalStateException
                """);
    }

    private static void savesAll(Edges edges) {
        edges.of(UNDO, SAVES, """
                bounds(0, -20, 90) = 100
                promise(1, 0, 5) = 0
                transfer(2, 0, 1, 6) = 1
                bounds(0, -30, 80) = 110
                finish(1, true) = 1
                undo() = 4
                owner(1, 1) = 0
                count(4) = 0
                counter(0, 0) = 0
                promiseOf(0, 0) = 1
                promiseOf(1, 0) = 2
                promiseOf(1, 3) = 1
                cancel(1) = 1
                undo() = 4
                owner(2, 2) = 0
                count(5) = 0
                pass(10) = 2
                undo() = 4
                count(0) = 0
                owner(1, 3) = 0
                owner(2, 3) = 0
                count(6) = 0
                promiseOf(1, 5) = 10
                undo() = 3
                counter(0, 1) = -20
                counter(0, 2) = 90
                count(3) = 2
                undo() = 2
                count(3) = 1
                undo() = 1
                count(3) = 0
                counter(0, 1) = -20
                undo() = 0
                counter(0, 1) = 0
                """);
    }

    private static void leavesBufferAndSaved(Edges edges) {
        edges.of(UNDO, SAVES, """
                promise(0, 0, 1) = 0
                type 0+1
                promise(0, 0, 2) = 1
                append(59) = 4
                undo() = 1
                firstError() = 4
                append(49) = 5
                clearBuffer() = 5
                undo() = 0
                clearBuffer() = 0
                """);
        edges.of(UNDO, SAVES, """
                type 1+2
                promiseAll() = 1
                undo() = 0
                clearBuffer() = 0
                type 3+4
                set(0, 5) = 6
                undo() = 0
                promiseAll() = 1
                promiseOf(0, 1) = 3
                """);
        edges.of(UNDO, SAVES, """
                set(0, 1) = 6
                set(0, 2) = 1
                set(0, 3) = 2
                undo() = 2
                undo() = 1
                set(0, 9) = 1
                count(9) = 2
                undo() = 1
                setting(0) = 1
                undo() = 0
                setting(0) = 6
                """);
    }

    private static void atMostSix(Edges edges) {
        edges.of(UNDO, AT_MOST_6, """
                set(1, 1) = 10
                set(1, 2) = 1
                set(1, 3) = 2
                set(1, 4) = 3
                set(1, 5) = 4
                count(9) = 5
                set(1, 6) = 5
                count(9) = 6
                set(1, 7) = 6
                count(9) = 6
                set(1, 8) = 7
                count(9) = 6
                undo() = 5
                setting(1) = 7
                undo() = 4
                setting(1) = 6
                undo() = 3
                setting(1) = 5
                undo() = 2
                setting(1) = 4
                undo() = 1
                setting(1) = 3
                undo() = 0
                setting(1) = 2
                undo() throws IllegalStateException
                setting(1) = 2
                """);
        edges.of(UNDO, AT_MOST_6, SIX_SAVED + SIX_UNDONE);
        edges.of(UNDO, AT_MOST_6, """
                set(1, 1) = 10
                set(1, 2) = 1
                set(1, 3) = 2
                set(1, 4) = 3
                set(1, 5) = 4
                set(1, 6) = 5
                set(1, 7) = 6
                undo() = 5
                undo() = 4
                set(1, 8) = 5
                set(1, 9) = 8
                set(1, 10) = 9
                count(9) = 6
                undo() = 5
                setting(1) = 9
                undo() = 4
                setting(1) = 8
                undo() = 3
                setting(1) = 5
                undo() = 2
                setting(1) = 4
                undo() = 1
                setting(1) = 3
                undo() = 0
                setting(1) = 2
                """);
    }

    private static void throwsAndChangesNothing(Edges edges) {
        edges.of(EXCEPTIONS, CHANGES_NOTHING, SIX_SAVED + THROWING + SIX_UNDONE);
        for (String call : THROWING.split("\n")) {
            edges.of(EXCEPTIONS, CHANGES_NOTHING, SIX_SAVED + call + "\n" + SIX_UNDONE);
        }
        edges.of(EXCEPTIONS, CHANGES_NOTHING, "type " + "x".repeat(60) + """

                append(33) throws IllegalStateException
                promiseAll() throws IllegalArgumentException
                undo() throws IllegalStateException
                clearBuffer() = 60
                """);
        edges.of(EXCEPTIONS, CHANGES_NOTHING, lastTime() + """
                pass(1) throws IllegalStateException
                count(0) = 9999
                undo() = 5
                count(0) = 9900
                """);
    }

    /** Each call to which two exceptions apply at once, or all three. */
    private static void throwsTheFirst(Edges edges) {
        for (String call : List.of("bounds(4, 5, 4)", "bounds(-1, -1000, 0)", "bounds(4, 1, 9)",
                "set(2, 0)", "set(-1, 100)", "promise(6, 0, 0)", "promise(0, 4, 100)", "promise(0, -1, -1)",
                "promise(6, 0, -1)", "transfer(6, 0, 0, 1)", "transfer(0, 4, 4, 1)", "transfer(0, -1, 0, 0)",
                "transfer(0, 0, 4, 100)", "transfer(0, 0, 4, 1)", "transfer(-1, 0, 1, 1)", "settlePart(0, 0)",
                "settlePart(-1, 1)", "counter(4, 10)", "counter(-1, -1)", "promiseOf(0, 6)", "promiseOf(-1, -1)",
                "owner(6, 5)", "owner(-1, -1)", "whyNot(6, 0, 0)", "whyNot(0, 4, 100)", "whyNot(-1, -1, -100)")) {
            edges.of(EXCEPTIONS, NAMED_FIRST, call + " throws IndexOutOfBoundsException");
        }
        for (String call : List.of("bounds(0, 1, 0)", "bounds(0, 1, 1000)", "bounds(0, -1000, -1)",
                "promise(0, 0, -100)", "transfer(0, 0, 0, 1)", "transfer(0, 0, 1, 100)", "transfer(0, 0, 1, 0)")) {
            edges.of(EXCEPTIONS, NAMED_FIRST, call + " throws IllegalArgumentException");
        }
        edges.of(EXCEPTIONS, NAMED_FIRST, TermEdges.FIFTEEN + """
                promise(1, 1, 1) = 15
                promise(0, 0, 0) throws IllegalArgumentException
                promise(0, 4, 1) throws IndexOutOfBoundsException
                transfer(0, 1, 2, 100) throws IllegalArgumentException
                transfer(0, 1, 4, 1) throws IndexOutOfBoundsException
                """);
        edges.of(EXCEPTIONS, NAMED_FIRST, lastTime() + """
                pass(100) throws IllegalArgumentException
                pass(2147483647) throws IllegalArgumentException
                pass(0) throws IllegalArgumentException
                """);
        edges.of(EXCEPTIONS, NAMED_FIRST, "type " + "0".repeat(60) + """

                append(32) throws IllegalArgumentException
                append(127) throws IllegalArgumentException
                """);
    }

    /** The time is 9999 behind it. */
    static String lastTime() {
        return "pass(99) = 0\n".repeat(101) + "count(0) = 9999\n";
    }
}
