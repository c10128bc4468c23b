/** The sentences of promises 1 to 3. */
final class CounterEdges {
    static void run(Edges edges) {
        newObject(edges);
        bounds(edges);
        boundsRefused(edges);
        set(edges);
    }

    private static void newObject(Edges edges) {
        edges.of("1", "Creates counters without promises, at the time 0, with an empty buffer.", """
                count(0) = 0
                count(1) = 0
                count(2) = 0
                count(3) = 0
                count(4) = 0
                count(5) = 0
                count(6) = 0
                count(7) = 0
                count(8) = -1
                count(9) = 0
                promiseOf(0, 0) throws IndexOutOfBoundsException
                settle(0) throws IndexOutOfBoundsException
                firstError() = 0
                clearBuffer() = 0
                promiseAll() throws IllegalArgumentException
                undo() throws IllegalStateException
                """);
        PromisedCounters one = new PromisedCounters();
        PromisedCounters other = new PromisedCounters();
        one.promise(0, 0, 5);
        one.append(48);
        edges.due("1", "Creates counters without promises, at the time 0, with an empty buffer.",
                "another object has promises", other.digest(), new PromisedCounters().digest());
        edges.due("1", "Creates counters without promises, at the time 0, with an empty buffer.",
                "promises of another object", other.count(1), 0);
    }

    private static void bounds(Edges edges) {
        edges.of("2", "Changes the bounds of a counter.", """
                bounds(2, -3, 8) = 100
                counter(2, 1) = -3
                counter(2, 2) = 8
                counter(1, 1) = 0
                counter(1, 2) = 100
                counter(3, 1) = 0
                counter(3, 2) = 100
                promise(0, 2, 8) = 0
                promise(0, 2, 1) throws IllegalStateException
                promise(0, 2, -3) = 1
                promise(0, 2, -1) throws IllegalStateException
                """);
        edges.of("2", "Undoable.", """
                undone bounds(1, -5, 300)
                undone bounds(1, 0, 100)
                undone bounds(0, 0, 0)
                bounds(3, 0, 7) = 100
                undo() = 0
                counter(3, 2) = 100
                """);
        edges.of("2", "`counter`: 0 to 3", """
                bounds(0, 0, 1) = 100
                bounds(3, 0, 3) = 100
                counter(0, 2) = 1
                counter(3, 2) = 3
                """);
        edges.of("2", "`least`: -999 to 999", """
                bounds(0, -999, 0) = 100
                counter(0, 1) = -999
                """);
        edges.of("2", "`least`: -999 to 999", toTheEnd("") + """
                counter(0, 0) = 999
                bounds(0, 999, 999) = 1998
                counter(0, 1) = 999
                bounds(0, -999, 999) = 0
                """);
        edges.of("2", "`most`: least to 999", """
                bounds(0, 0, 0) = 100
                counter(0, 2) = 0
                bounds(0, 0, 999) = 0
                counter(0, 2) = 999
                bounds(1, -1, 0) = 100
                bounds(2, -1, -2) throws IllegalArgumentException
                bounds(2, 0, -1) throws IllegalArgumentException
                """);
        edges.of("2", "`most`: least to 999", toTheEnd("-") + """
                counter(0, 0) = -999
                bounds(0, -999, -999) = 1998
                counter(0, 2) = -999
                bounds(0, -999, -998) = 0
                """);
        edges.of("2", "Returns the greatest value less the least one that it had.", """
                bounds(1, -5, 300) = 100
                bounds(1, 0, 0) = 305
                bounds(1, -999, 999) = 0
                bounds(1, -7, 0) = 1998
                bounds(1, 0, 9) = 7
                bounds(1, 0, 9) = 9
                """);
    }

    /** Counter 0 comes to 999, or as far below 0, with the widest bounds. */
    private static String toTheEnd(String sign) {
        StringBuilder calls = new StringBuilder("bounds(0, -999, 999) = 100\n");
        for (int i = 1; i <= 11; i++) {
            int by = i <= 10 ? 99 : 9;
            int then = i <= 10 ? 99 * i : 999;
            calls.append("promise(0, 0, ").append(sign).append(by).append(") = 0\n");
            calls.append("settle(0) = ").append(sign).append(then).append('\n');
        }
        return calls.toString();
    }

    private static void boundsRefused(Edges edges) {
        edges.outside("2", "Throws `IndexOutOfBoundsException` if there is no such counter", "", "bounds(#, 0, 100)",
                Edges.INDEX, -1, 4, Integer.MIN_VALUE, Integer.MAX_VALUE);
        String told = "Throws `IllegalArgumentException` if a bound is out of range";
        edges.outside("2", told, "", "bounds(0, #, 100)", Edges.ARGUMENT, -1000, 101, 999, 1000, Integer.MIN_VALUE,
                Integer.MAX_VALUE);
        edges.outside("2", told, "", "bounds(0, 0, #)", Edges.ARGUMENT, 1000, -1, -999, Integer.MIN_VALUE,
                Integer.MAX_VALUE);
        edges.outside("2", told, "", "bounds(0, #, #)", Edges.ARGUMENT, -1000, 1000, Integer.MIN_VALUE,
                Integer.MAX_VALUE);
        String refused = "Throws `IllegalStateException` if its low is below least, or its high above most";
        edges.of("2", refused, """
                bounds(0, 1, 100) throws IllegalStateException
                bounds(0, -100, -1) throws IllegalStateException
                bounds(0, 999, 999) throws IllegalStateException
                bounds(0, -999, -999) throws IllegalStateException
                """);
        edges.of("2", refused, """
                bounds(0, -50, 100) = 100
                promise(0, 0, -20) = 0
                promise(0, 0, 30) = 1
                bounds(0, -19, 100) throws IllegalStateException
                bounds(0, -50, 29) throws IllegalStateException
                bounds(0, -19, 29) throws IllegalStateException
                counter(0, 1) = -50
                counter(0, 2) = 100
                bounds(0, -20, 30) = 150
                settle(1) = 30
                bounds(0, 11, 30) throws IllegalStateException
                bounds(0, 10, 29) throws IllegalStateException
                bounds(0, 10, 30) = 50
                """);
        edges.of("2", refused, """
                bounds(1, -9, 9) = 100
                transfer(0, 1, 2, 8) = 0
                bounds(1, -7, 9) throws IllegalStateException
                bounds(2, 0, 7) throws IllegalStateException
                bounds(1, -8, 0) = 18
                bounds(2, 0, 8) = 100
                """);
    }

    private static void set(Edges edges) {
        edges.of("3", "Changes a setting (promises that there are stay as they are).", """
                promise(0, 0, 1) = 0
                promise(0, 0, 2) = 1
                promise(0, 0, 3) = 2
                set(0, 1) = 6
                set(1, 50) = 10
                count(1) = 3
                promiseOf(0, 4) = 10
                promiseOf(2, 2) = 3
                set(1, 1) = 50
                pass(1) = 0
                count(1) = 3
                promise(0, 0, 1) throws IllegalStateException
                setting(0) = 1
                setting(1) = 1
                """);
        edges.of("3", "Undoable.", """
                undone set(0, 16)
                undone set(0, 6)
                undone set(1, 99)
                undone set(1, 10)
                setting(0) = 6
                setting(1) = 10
                """);
        edges.of("3", "`setting`: 0 or 1", """
                set(0, 7) = 6
                setting(1) = 10
                set(1, 8) = 10
                setting(0) = 7
                """);
        edges.of("3", "`value`: the new value", """
                set(0, 1) = 6
                setting(0) = 1
                set(0, 16) = 1
                setting(0) = 16
                set(1, 1) = 10
                setting(1) = 1
                set(1, 99) = 1
                setting(1) = 99
                """);
        edges.of("3", "Returns the previous value.", """
                set(0, 3) = 6
                set(1, 3) = 10
                set(0, 4) = 3
                set(0, 4) = 4
                set(1, 98) = 3
                """);
        edges.outside("3", "Throws `IndexOutOfBoundsException` if there is no such setting", "", "set(#, 5)",
                Edges.INDEX, -1, 2, Integer.MIN_VALUE, Integer.MAX_VALUE);
        String told = "Throws `IllegalArgumentException` if value is out of range";
        edges.outside("3", told, "", "set(0, #)", Edges.ARGUMENT, 0, 17, -1, 99, Integer.MIN_VALUE, Integer.MAX_VALUE);
        edges.outside("3", told, "", "set(1, #)", Edges.ARGUMENT, 0, 100, -1, Integer.MIN_VALUE, Integer.MAX_VALUE);
    }
}
