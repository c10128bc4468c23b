/** Promises 1 to 3: a new object, bounds, set. */
final class CountersTest {
    public static void main(String[] args) {
        Runs runs = new Runs();
        newObject(runs);
        bounds(runs);
        set(runs);
        runs.end();
    }

    private static void newObject(Runs runs) {
        runs.on("1: no promises, time 0, an empty buffer, nothing saved", """
                count(0) = 0
                count(1) = 0
                count(3) = 0
                count(7) = 0
                count(9) = 0
                clearBuffer() = 0
                undo() throws IllegalStateException
                setting(0) = 6
                setting(1) = 10
                """);
        for (int c = 0; c < 4; c++) {
            runs.on("1: the value and the bounds of counter " + c, """
                    counter(#, 0) = 0
                    counter(#, 1) = 0
                    counter(#, 2) = 100
                    """.replace("#", String.valueOf(c)));
        }
        PromisedCounters one = new PromisedCounters();
        PromisedCounters other = new PromisedCounters();
        one.promise(0, 0, 5);
        runs.due("1: an object stands alone", other.count(1), 0);
    }

    private static void bounds(Runs runs) {
        runs.on("2: answers how far apart they were", """
                bounds(1, -5, 300) = 100
                counter(0, 2) = 100
                counter(1, 1) = -5
                counter(1, 2) = 300
                bounds(1, 0, 0) = 305
                bounds(1, -999, 999) = 0
                bounds(1, -999, 999) = 1998
                counter(1, 1) = -999
                counter(1, 2) = 999
                bounds(3, 0, 7) = 100
                counter(3, 2) = 7
                count(9) = 5
                undo() = 4
                counter(3, 2) = 100
                """);
        runs.on("2: wrong inputs", """
                bounds(-1, 0, 0) throws IndexOutOfBoundsException
                bounds(4, 0, 0) throws IndexOutOfBoundsException
                bounds(2147483647, 0, 0) throws IndexOutOfBoundsException
                bounds(0, -1000, 0) throws IllegalArgumentException
                bounds(0, 1000, 1000) throws IllegalArgumentException
                bounds(0, 0, 1000) throws IllegalArgumentException
                bounds(0, 5, 4) throws IllegalArgumentException
                bounds(0, -2147483648, 2147483647) throws IllegalArgumentException
                bounds(0, 1, 9) throws IllegalStateException
                bounds(0, -9, -1) throws IllegalStateException
                count(9) = 0
                """);
        runs.on("2: the first exception that applies", """
                bounds(4, 5, 4) throws IndexOutOfBoundsException
                bounds(0, 1, 0) throws IllegalArgumentException
                bounds(0, 1000, 1) throws IllegalArgumentException
                """);
        runs.on("2: the low and the high, not the value, stay inside", """
                bounds(0, -50, 100) = 100
                promise(0, 0, -20) = 0
                promise(0, 0, 30) = 1
                bounds(0, -19, 100) throws IllegalStateException
                bounds(0, -50, 29) throws IllegalStateException
                bounds(0, -20, 30) = 150
                transfer(1, 1, 2, 1) throws IllegalStateException
                settle(1) = 30
                bounds(0, 11, 30) throws IllegalStateException
                bounds(0, 10, 30) = 50
                bounds(0, 10, 29) throws IllegalStateException
                """);
    }

    private static void set(Runs runs) {
        runs.on("3: answers the previous value, to both ends", """
                set(0, 1) = 6
                set(0, 16) = 1
                set(1, 99) = 10
                set(1, 1) = 99
                setting(0) = 16
                setting(1) = 1
                count(9) = 4
                undo() = 3
                setting(1) = 99
                undo() = 2
                setting(1) = 10
                """);
        runs.on("3: wrong inputs", """
                set(-1, 5) throws IndexOutOfBoundsException
                set(2, 5) throws IndexOutOfBoundsException
                set(2, 0) throws IndexOutOfBoundsException
                set(0, 0) throws IllegalArgumentException
                set(0, 17) throws IllegalArgumentException
                set(1, 0) throws IllegalArgumentException
                set(1, 100) throws IllegalArgumentException
                set(1, -2147483648) throws IllegalArgumentException
                count(9) = 0
                """);
        runs.on("3: promises that there are stay as they are", """
                promise(0, 0, 1) = 0
                promise(0, 0, 1) = 1
                set(0, 1) = 6
                set(1, 50) = 10
                count(1) = 2
                promiseOf(0, 4) = 10
                promise(0, 0, 1) throws IllegalStateException
                promise(1, 0, 1) = 2
                promiseOf(2, 4) = 50
                """);
    }
}
