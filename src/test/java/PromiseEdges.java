import java.util.List;

/** The sentences of promises 4 to 11. */
final class PromiseEdges {
    private static final String NO_PROMISE = "Throws `IndexOutOfBoundsException` if there is no such promise";
    private static final String NO_OWNER_OR_COUNTER =
            "Throws `IndexOutOfBoundsException` if there is no such owner or counter";
    private static final String A_REASON = "Throws `IllegalStateException` if there is a reason against it";
    private static final String ITS_NUMBER = "`promise`: its number";
    /** Owners 0 to 2 have one promise each: 60 of counter 0, -20 of counter 3, a transfer of 30 from 3 to 1. */
    private static final String THREE = """
            bounds(3, -50, 50) = 100
            promise(0, 0, 60) = 0
            promise(1, 3, -20) = 1
            transfer(2, 3, 1, 30) = 2
            """;

    static void run(Edges edges) {
        promise(edges);
        transfer(edges);
        transferRefused(edges);
        settle(edges);
        settlePart(edges);
        cancel(edges);
        renew(edges);
        finish(edges);
        pass(edges);
    }

    /** No promise has these numbers while there are three. */
    private static void noPromise(Edges edges, String place, String call) {
        edges.outside(place, NO_PROMISE, THREE, call, Edges.INDEX, -1, 3, 15, 16, Integer.MIN_VALUE, Integer.MAX_VALUE);
        edges.outside(place, NO_PROMISE, "", call, Edges.INDEX, 0, -1);
        edges.outside(place, NO_PROMISE, THREE + "pass(10) = 3\n", call, Edges.INDEX, 0, 2);
    }

    private static void promise(Edges edges) {
        edges.of("4", "Promises a change.", """
                promise(2, 1, 33) = 0
                counter(1, 0) = 0
                counter(1, 4) = 33
                count(1) = 1
                count(2) = 0
                count(3) = 1
                promiseOf(0, 0) = 2
                promiseOf(0, 1) = 1
                promiseOf(0, 2) = 33
                promiseOf(0, 3) = -1
                promiseOf(0, 4) = 10
                """);
        edges.of("4", "Undoable.", """
                bounds(2, -5, 5) = 100
                undone promise(0, 0, 1)
                undone promise(5, 2, -5)
                promise(1, 1, 99) = 0
                undo() = 1
                count(1) = 0
                count(3) = 0
                """);
        edges.of("4", "`owner`: 0 to 5", """
                promise(0, 0, 1) = 0
                promise(5, 0, 1) = 1
                promiseOf(0, 0) = 0
                promiseOf(1, 0) = 5
                """);
        edges.of("4", "`counter`: 0 to 3", """
                promise(0, 0, 1) = 0
                promise(0, 3, 1) = 1
                counter(0, 4) = 1
                counter(3, 4) = 1
                """);
        edges.of("4", "`by`: -99 to 99, not 0", """
                bounds(0, -100, 100) = 100
                promise(0, 0, 99) = 0
                promise(0, 0, -99) = 1
                promise(0, 0, 1) = 2
                promise(0, 0, -1) = 3
                promiseOf(0, 2) = 99
                promiseOf(1, 2) = -99
                promiseOf(2, 2) = 1
                promiseOf(3, 2) = -1
                """);
        edges.of("4", "Returns the number of the promise.", TermEdges.FIFTEEN + """
                promise(5, 3, 2) = 15
                promiseOf(15, 0) = 5
                finish(0, false) = 15
                promise(4, 3, 1) = 1
                cancel(0) = 1
                promise(4, 3, 1) = 1
                """);
        edges.outside("4", NO_OWNER_OR_COUNTER, "", "promise(#, 0, 1)", Edges.INDEX, -1, 6, Integer.MIN_VALUE,
                Integer.MAX_VALUE);
        edges.outside("4", NO_OWNER_OR_COUNTER, "", "promise(0, #, 1)", Edges.INDEX, -1, 4, Integer.MIN_VALUE,
                Integer.MAX_VALUE);
        edges.outside("4", "Throws `IllegalArgumentException` if by is out of range", "bounds(0, -999, 999) = 100\n",
                "promise(0, 0, #)", Edges.ARGUMENT, 0, 100, -100, Integer.MIN_VALUE, Integer.MAX_VALUE);
        edges.of("4", A_REASON, """
                promise(0, 0, -1) throws IllegalStateException
                bounds(0, 0, 98) = 100
                promise(0, 0, 99) throws IllegalStateException
                set(0, 1) = 6
                promise(0, 0, 98) = 0
                promise(0, 1, 1) throws IllegalStateException
                promise(1, 0, 1) throws IllegalStateException
                count(1) = 1
                count(9) = 3
                """);
        edges.of("4", A_REASON, TermEdges.FIFTEEN + """
                promise(1, 1, 1) = 15
                promise(2, 1, 1) throws IllegalStateException
                settle(15) = 1
                promise(2, 1, 1) = 15
                promise(3, 1, 1) throws IllegalStateException
                """);
    }

    private static void transfer(Edges edges) {
        edges.of("5", "Promises a transfer: its counter is the one from which it goes, its change below 0.", """
                bounds(1, -10, 100) = 100
                transfer(4, 1, 2, 10) = 0
                promiseOf(0, 0) = 4
                promiseOf(0, 1) = 1
                promiseOf(0, 2) = -10
                promiseOf(0, 3) = 2
                promiseOf(0, 4) = 10
                counter(1, 3) = -10
                counter(1, 4) = 0
                counter(2, 3) = 0
                counter(2, 4) = 10
                counter(1, 0) = 0
                counter(2, 0) = 0
                count(1) = 1
                count(2) = 1
                count(3) = 1
                """);
        edges.of("5", "Undoable.", """
                bounds(3, -99, 0) = 100
                undone transfer(0, 3, 0, 99)
                undone transfer(5, 3, 2, 1)
                transfer(1, 3, 1, 50) = 0
                undo() = 1
                count(1) = 0
                counter(3, 3) = 0
                """);
        edges.of("5", "`owner`: 0 to 5", """
                bounds(1, -9, 9) = 100
                transfer(0, 1, 2, 2) = 0
                transfer(5, 1, 2, 3) = 1
                promiseOf(0, 0) = 0
                promiseOf(1, 0) = 5
                """);
        edges.of("5", "`from`: 0 to 3", """
                bounds(0, -9, 9) = 100
                bounds(3, -9, 9) = 100
                transfer(1, 0, 2, 2) = 0
                transfer(1, 3, 2, 3) = 1
                promiseOf(0, 1) = 0
                promiseOf(1, 1) = 3
                counter(0, 3) = -2
                counter(3, 3) = -3
                """);
        edges.of("5", "`to`: 0 to 3, another counter", """
                bounds(1, -9, 9) = 100
                transfer(1, 1, 0, 2) = 0
                transfer(1, 1, 3, 3) = 1
                promiseOf(0, 3) = 0
                promiseOf(1, 3) = 3
                counter(0, 4) = 2
                counter(3, 4) = 3
                transfer(1, 1, 1, 1) throws IllegalArgumentException
                """);
        edges.of("5", "`many`: 1 to 99", """
                bounds(0, -100, 100) = 100
                transfer(0, 0, 1, 99) = 0
                transfer(0, 0, 1, 1) = 1
                promiseOf(0, 2) = -99
                promiseOf(1, 2) = -1
                """);
        edges.of("5", "Returns the number of the promise.", TermEdges.FIFTEEN + """
                bounds(3, -9, 9) = 100
                transfer(5, 3, 2, 2) = 15
                promiseOf(15, 1) = 3
                finish(0, false) = 15
                transfer(5, 3, 2, 2) = 1
                """);
    }

    private static void transferRefused(Edges edges) {
        int[] owners = {-1, 6, Integer.MIN_VALUE, Integer.MAX_VALUE};
        int[] counters = {-1, 4, Integer.MIN_VALUE, Integer.MAX_VALUE};
        String wide = "bounds(0, -999, 999) = 100\n";
        edges.outside("5", NO_OWNER_OR_COUNTER, wide, "transfer(#, 0, 1, 1)", Edges.INDEX, owners);
        edges.outside("5", NO_OWNER_OR_COUNTER, wide, "transfer(0, #, 1, 1)", Edges.INDEX, counters);
        edges.outside("5", NO_OWNER_OR_COUNTER, wide, "transfer(0, 0, #, 1)", Edges.INDEX, counters);
        String told = "Throws `IllegalArgumentException` if both counters are the same, or many is out of range";
        edges.outside("5", told, wide, "transfer(0, 0, 1, #)", Edges.ARGUMENT, 0, -1, 100, -99, Integer.MIN_VALUE,
                Integer.MAX_VALUE);
        edges.outside("5", told, wide, "transfer(0, #, #, 1)", Edges.ARGUMENT, 0, 1, 2, 3);
        edges.of("5", A_REASON, """
                transfer(0, 0, 1, 1) throws IllegalStateException
                bounds(0, -9, 9) = 100
                bounds(1, 0, 5) = 100
                transfer(0, 0, 1, 6) throws IllegalStateException
                transfer(0, 0, 2, 10) throws IllegalStateException
                transfer(0, 0, 1, 5) = 0
                transfer(0, 0, 1, 1) throws IllegalStateException
                transfer(0, 0, 2, 5) throws IllegalStateException
                transfer(0, 0, 2, 4) = 1
                set(0, 2) = 6
                bounds(0, -50, 9) = 18
                transfer(0, 0, 3, 1) throws IllegalStateException
                transfer(1, 0, 3, 1) = 2
                count(9) = 6
                """);
        edges.of("5", A_REASON, TermEdges.FIFTEEN + """
                bounds(3, -9, 9) = 100
                transfer(1, 3, 1, 1) = 15
                transfer(2, 3, 1, 1) throws IllegalStateException
                """);
    }

    private static void settle(Edges edges) {
        edges.of("6", "Settles a promise.", THREE + """
                settle(2) = -30
                counter(3, 0) = -30
                counter(1, 0) = 30
                count(1) = 2
                count(4) = 1
                owner(2, 1) = 1
                owner(2, 2) = 0
                count(5) = 0
                count(6) = 0
                settle(0) = 60
                counter(0, 0) = 60
                promiseOf(0, 0) = 1
                """);
        edges.of("6", "Undoable.", THREE + """
                undo() = 3
                transfer(2, 3, 1, 5) = 2
                undone settle(0)
                undone settle(1)
                undone settle(2)
                settle(0) = 60
                undo() = 4
                counter(0, 0) = 0
                count(4) = 0
                promiseOf(0, 2) = 60
                """);
        edges.of("6", ITS_NUMBER, THREE + """
                settle(0) = 60
                settle(1) = -30
                settle(0) = -50
                settle(0) throws IndexOutOfBoundsException
                """);
        edges.of("6", "Returns the value of its counter then.", THREE + """
                promise(0, 0, 40) = 3
                settle(3) = 40
                settle(0) = 100
                settle(0) = -20
                settle(0) = -50
                promise(0, 3, 50) = 0
                settle(0) = 0
                """);
        noPromise(edges, "6", "settle(#)");
    }

    private static void settlePart(Edges edges) {
        edges.of("7", "Settles a part of a promise: so much of its change is added as by a settlement, and it goes on "
                + "with the rest.", THREE + """
                settlePart(2, 12) = -18
                counter(3, 0) = -12
                counter(1, 0) = 12
                counter(3, 3) = -50
                counter(1, 4) = 30
                promiseOf(2, 0) = 2
                promiseOf(2, 1) = 3
                promiseOf(2, 2) = -18
                promiseOf(2, 3) = 1
                promiseOf(2, 4) = 10
                settlePart(0, 59) = 1
                counter(0, 0) = 59
                counter(0, 4) = 60
                count(1) = 3
                count(3) = 3
                count(4) = 0
                owner(0, 1) = 0
                settle(0) = 60
                count(4) = 1
                cancel(1) = 1
                counter(3, 0) = -12
                counter(1, 0) = 12
                """);
        edges.of("7", "Undoable.", """
                bounds(3, -50, 50) = 100
                promise(0, 0, 60) = 0
                transfer(2, 3, 1, 30) = 1
                undone settlePart(0, 59)
                undone settlePart(1, 1)
                settlePart(1, 29) = -1
                undo() = 3
                promiseOf(1, 2) = -30
                counter(1, 0) = 0
                """);
        edges.of("7", ITS_NUMBER, THREE + """
                settlePart(0, 1) = 59
                settlePart(1, 1) = -19
                settlePart(2, 1) = -29
                """);
        edges.of("7", "`part`: at least 1, less than the size of its change (without its sign)", """
                bounds(0, -99, 99) = 100
                promise(0, 0, 99) = 0
                promise(0, 0, -99) = 1
                promise(0, 1, 2) = 2
                settlePart(0, 98) = 1
                settlePart(1, 98) = -1
                settlePart(2, 1) = 1
                settlePart(0, 1) throws IllegalArgumentException
                settlePart(1, 1) throws IllegalArgumentException
                settlePart(2, 1) throws IllegalArgumentException
                """);
        edges.of("7", "Returns the rest of its change, with its sign.", """
                bounds(0, -99, 99) = 100
                promise(0, 0, 10) = 0
                promise(0, 0, -10) = 1
                transfer(0, 0, 1, 10) = 2
                settlePart(0, 1) = 9
                settlePart(0, 3) = 6
                settlePart(1, 1) = -9
                settlePart(1, 3) = -6
                settlePart(2, 4) = -6
                settlePart(2, 5) = -1
                """);
        noPromise(edges, "7", "settlePart(#, 1)");
        String told = "Throws `IllegalArgumentException` if part is out of range";
        edges.outside("7", told, THREE, "settlePart(0, #)", Edges.ARGUMENT, 0, -1, 60, 61, -60, Integer.MIN_VALUE,
                Integer.MAX_VALUE);
        edges.outside("7", told, THREE, "settlePart(2, #)", Edges.ARGUMENT, 0, -1, 30, 31, -30, Integer.MIN_VALUE,
                Integer.MAX_VALUE);
        edges.outside("7", told, "promise(0, 0, 1) = 0\n", "settlePart(0, #)", Edges.ARGUMENT, 0, 1, -1, 2);
    }

    private static void cancel(Edges edges) {
        edges.of("8", "Cancels a promise.", THREE + """
                cancel(2) = 2
                counter(3, 0) = 0
                counter(3, 3) = -20
                counter(1, 0) = 0
                counter(1, 4) = 0
                count(5) = 1
                owner(2, 2) = 1
                owner(2, 1) = 0
                count(4) = 0
                count(6) = 0
                settlePart(0, 10) = 50
                cancel(0) = 1
                counter(0, 0) = 10
                counter(0, 4) = 10
                """);
        edges.of("8", "Undoable.", """
                promise(0, 0, 60) = 0
                promise(1, 1, 5) = 1
                undone cancel(0)
                undone cancel(1)
                cancel(0) = 1
                undo() = 2
                promiseOf(0, 2) = 60
                count(5) = 0
                """);
        edges.of("8", ITS_NUMBER, THREE + """
                cancel(1) = 2
                promiseOf(0, 0) = 0
                promiseOf(1, 0) = 2
                cancel(0) = 1
                promiseOf(0, 0) = 2
                """);
        edges.of("8", "Returns how many promises there are then.", TermEdges.FIFTEEN + """
                promise(1, 1, 1) = 15
                cancel(15) = 15
                cancel(0) = 14
                cancel(7) = 13
                finish(0, true) = 13
                promise(1, 1, 1) = 0
                cancel(0) = 0
                """);
        noPromise(edges, "8", "cancel(#)");
    }

    private static void renew(Edges edges) {
        edges.of("9", "Renews a promise: it holds until the time plus setting 1.", """
                promise(0, 0, 1) = 0
                promise(1, 1, 2) = 1
                pass(9) = 0
                renew(1) = 9
                promiseOf(1, 4) = 19
                promiseOf(1, 2) = 2
                promiseOf(0, 4) = 10
                pass(1) = 1
                set(1, 99) = 10
                renew(0) = 90
                promiseOf(0, 4) = 109
                set(1, 1) = 99
                renew(0) = -98
                promiseOf(0, 4) = 11
                promiseOf(0, 5) = 1
                count(3) = 2
                pass(1) = 1
                """);
        edges.of("9", "Undoable.", """
                promise(0, 0, 1) = 0
                undone renew(0)
                pass(3) = 0
                undone renew(0)
                renew(0) = 3
                undo() = 2
                promiseOf(0, 4) = 10
                """);
        edges.of("9", ITS_NUMBER, THREE + """
                set(1, 20) = 10
                renew(0) = 10
                renew(2) = 10
                promiseOf(0, 4) = 20
                promiseOf(1, 4) = 10
                promiseOf(2, 4) = 20
                """);
        edges.of("9", "Returns how many units longer it holds than before (below 0 if it is shorter).", """
                set(1, 1) = 10
                promise(0, 0, 1) = 0
                renew(0) = 0
                set(1, 99) = 1
                renew(0) = 98
                renew(0) = 0
                set(1, 1) = 99
                renew(0) = -98
                set(1, 99) = 1
                renew(0) = 98
                pass(98) = 0
                renew(0) = 98
                """);
        noPromise(edges, "9", "renew(#)");
    }

    private static void finish(Edges edges) {
        String owned = """
                bounds(0, -50, 50) = 100
                promise(2, 0, 5) = 0
                promise(1, 0, 3) = 1
                transfer(2, 0, 1, 20) = 2
                promise(2, 3, 7) = 3
                """;
        edges.of("10", "Settles or cancels all promises of an owner.", owned + """
                finish(2, true) = 3
                counter(0, 0) = -15
                counter(1, 0) = 20
                counter(3, 0) = 7
                counter(0, 4) = -12
                count(1) = 1
                promiseOf(0, 0) = 1
                owner(2, 1) = 3
                owner(2, 2) = 0
                count(4) = 3
                owner(1, 0) = 1
                """);
        edges.of("10", "Undoable, as one call.", """
                promise(2, 0, 5) = 0
                promise(2, 1, 6) = 1
                promise(1, 2, 7) = 2
                undone finish(2, true)
                undone finish(2, false)
                undone finish(0, true)
                undone finish(0, false)
                finish(2, true) = 2
                count(9) = 4
                undo() = 3
                count(1) = 3
                """);
        edges.of("10", "`owner`: 0 to 5", """
                promise(0, 0, 1) = 0
                promise(5, 1, 2) = 1
                finish(5, true) = 1
                counter(1, 0) = 2
                finish(0, true) = 1
                counter(0, 0) = 1
                """);
        edges.of("10", "`isSettled`: whether they are settled, otherwise cancelled", owned + """
                finish(2, false) = 3
                count(7) = 0
                counter(0, 3) = 0
                counter(0, 4) = 3
                counter(1, 4) = 0
                owner(2, 1) = 0
                owner(2, 2) = 3
                count(4) = 0
                count(5) = 3
                finish(1, true) = 1
                owner(1, 1) = 1
                count(5) = 3
                counter(0, 0) = 3
                """);
        edges.of("10", "Returns how many there were.", owned + """
                finish(0, true) = 0
                finish(5, false) = 0
                finish(1, false) = 1
                finish(1, false) = 0
                finish(2, true) = 3
                finish(2, true) = 0
                """);
        edges.of("10", "Returns how many there were.", TermEdges.FIFTEEN + """
                promise(0, 1, 1) = 15
                finish(0, true) = 16
                count(1) = 0
                counter(0, 0) = 15
                """);
        edges.outside("10", "Throws `IndexOutOfBoundsException` if there is no such owner", "promise(0, 0, 1) = 0\n",
                "finish(#, true)", Edges.INDEX, -1, 6, Integer.MIN_VALUE, Integer.MAX_VALUE);
    }

    private static void pass(Edges edges) {
        edges.of("11", "Lets time pass.", """
                pass(1) = 0
                count(0) = 1
                pass(99) = 0
                count(0) = 100
                promise(0, 0, 1) = 0
                promiseOf(0, 4) = 110
                pass(3) = 0
                promiseOf(0, 5) = 7
                """);
        edges.of("11", "Undoable, as one call.", """
                promise(0, 0, 1) = 0
                set(1, 2) = 10
                promise(1, 0, 1) = 1
                undone pass(1)
                undone pass(2)
                undone pass(99)
                pass(50) = 2
                count(9) = 4
                undo() = 3
                count(0) = 0
                count(6) = 0
                count(1) = 2
                """);
        edges.of("11", "`units`: 1 to 99", """
                pass(1) = 0
                pass(99) = 0
                count(0) = 100
                """);
        edges.of("11", "Returns how many promises lapse in it.", """
                promise(0, 0, 1) = 0
                promise(1, 0, 1) = 1
                set(1, 11) = 10
                promise(2, 0, 1) = 2
                pass(9) = 0
                pass(1) = 2
                pass(1) = 1
                pass(1) = 0
                """);
        edges.of("11", "Returns how many promises lapse in it.", TermEdges.FIFTEEN + """
                set(1, 99) = 10
                promise(1, 1, 1) = 15
                pass(99) = 16
                count(1) = 0
                """);
        edges.outside("11", "Throws `IllegalArgumentException` if units is out of range", "promise(0, 0, 1) = 0\n",
                "pass(#)", Edges.ARGUMENT, 0, -1, 100, Integer.MIN_VALUE, Integer.MAX_VALUE);
        edges.of("11", "Throws `IllegalStateException` if the time would be above 9999", CallEdges.lastTime() + """
                pass(1) throws IllegalStateException
                pass(99) throws IllegalStateException
                undo() = 5
                pass(98) = 0
                count(0) = 9998
                pass(2) throws IllegalStateException
                promise(0, 0, 1) = 0
                pass(1) = 0
                promiseOf(0, 4) = 10008
                promiseOf(0, 5) = 9
                pass(1) throws IllegalStateException
                """);
    }
}
