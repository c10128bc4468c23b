/** The sentences of the terms on counters and promises, reasons and settings. */
final class TermEdges {
    private static final String COUNTERS = "Counters, promises";
    private static final String REASONS = "Reasons against a promise";
    private static final String SETTINGS = "Settings";

    private static final String REASONS_TOLD = "The first one of these that applies: 1: there are 16 promises; "
            + "2: the owner has at least setting 0 promises; 3: a low would be below its least value; "
            + "4: a high would be above its greatest value.";
    private static final String SETTINGS_TOLD = "0: promises that an owner can have, 1 to 16, at first 6; "
            + "1: how long a promise holds, 1 to 99, at first 10.";
    private static final String AT_MOST_16 = "There are at most 16 promises, numbered from 0 in the order in which "
            + "they came; if one ends, those behind it have numbers that are less by 1.";
    private static final String STAYS_INSIDE =
            "(So whatever promises are settled, in whatever order, it stays within its bounds.)";

    /** Fifteen promises of owner 0, one for counter 0 each; one less than there can be. */
    static final String FIFTEEN = """
            set(0, 16) = 6
            type 0+1;0+1;0+1;0+1;0+1;0+1;0+1;0+1;0+1;0+1;0+1;0+1;0+1;0+1;0+1
            promiseAll() = 15
            """;

    static void run(Edges edges) {
        numbersAndCounters(edges);
        promises(edges);
        numbers(edges);
        lowAndHigh(edges);
        staysInside(edges);
        ends(edges);
        time(edges);
        lapses(edges);
        reasonsOfNumber(edges);
        reasonsOfRoom(edges);
        settings(edges);
    }

    private static void numbersAndCounters(Edges edges) {
        edges.of("Terms", "All numbers are integers, but for a share.", """
                promise(0, 0, 1) = 0
                counter(0, 4) = 1
                heldShare() = 0.0025
                """);
        String told = "There are 4 counters, numbered from 0, each with a value, at first 0, and bounds, a least "
                + "and a greatest value, at first 0 and 100.";
        for (int c = 0; c < 4; c++) {
            edges.of(COUNTERS, told, """
                    counter(#, 0) = 0
                    counter(#, 1) = 0
                    counter(#, 2) = 100
                    """.replace("#", String.valueOf(c)));
        }
        edges.outside(COUNTERS, told, "", "counter(#, 0)", Edges.INDEX, -1, 4, Integer.MIN_VALUE, Integer.MAX_VALUE);
    }

    private static void promises(Edges edges) {
        edges.of(COUNTERS, AT_MOST_16, FIFTEEN + """
                bounds(3, -9, 9) = 100
                count(1) = 15
                promise(1, 1, 1) = 15
                count(1) = 16
                promise(2, 2, 1) throws IllegalStateException
                transfer(2, 3, 2, 1) throws IllegalStateException
                type 2+1
                promiseAll() = 0
                count(1) = 16
                promiseOf(15, 0) = 1
                promiseOf(16, 0) throws IndexOutOfBoundsException
                cancel(15) = 15
                transfer(2, 3, 2, 1) = 15
                promise(2, 2, 1) throws IllegalStateException
                """);
        edges.of(COUNTERS, "A promise has an owner, 0 to 5, a counter, a change of it, -99 to 99 but not 0, and the "
                + "time until which it holds; a transfer also has another counter, which it changes by as much the "
                + "other way.", """
                bounds(2, -99, 0) = 100
                pass(1) = 0
                promise(0, 0, 99) = 0
                promise(5, 2, -99) = 1
                bounds(3, -99, 99) = 100
                transfer(4, 3, 1, 99) = 2
                promiseOf(0, 0) = 0
                promiseOf(0, 1) = 0
                promiseOf(0, 2) = 99
                promiseOf(0, 3) = -1
                promiseOf(0, 4) = 11
                promiseOf(1, 0) = 5
                promiseOf(1, 1) = 2
                promiseOf(1, 2) = -99
                promiseOf(1, 3) = -1
                promiseOf(2, 0) = 4
                promiseOf(2, 1) = 3
                promiseOf(2, 2) = -99
                promiseOf(2, 3) = 1
                counter(3, 6) = -99
                counter(1, 6) = 99
                promise(0, 0, 0) throws IllegalArgumentException
                promise(0, 0, 100) throws IllegalArgumentException
                promise(0, 2, -100) throws IllegalArgumentException
                promise(6, 0, 1) throws IndexOutOfBoundsException
                """);
    }

    /** The first, one in the middle and the last one end, in each of the ways in which a promise can. */
    private static void numbers(Edges edges) {
        String four = """
                promise(0, 0, 1) = 0
                promise(1, 1, 2) = 1
                promise(2, 2, 3) = 2
                promise(3, 3, 4) = 3
                """;
        edges.of(COUNTERS, AT_MOST_16, four + """
                settle(1) = 2
                promiseOf(0, 0) = 0
                promiseOf(1, 0) = 2
                promiseOf(2, 0) = 3
                promiseOf(3, 0) throws IndexOutOfBoundsException
                settle(0) = 1
                promiseOf(0, 2) = 3
                promiseOf(1, 2) = 4
                settle(1) = 4
                promiseOf(0, 1) = 2
                promiseOf(1, 1) throws IndexOutOfBoundsException
                promise(4, 0, 5) = 1
                """);
        edges.of(COUNTERS, AT_MOST_16, four + """
                cancel(2) = 3
                promiseOf(0, 0) = 0
                promiseOf(1, 0) = 1
                promiseOf(2, 0) = 3
                cancel(2) = 2
                promiseOf(1, 0) = 1
                cancel(0) = 1
                promiseOf(0, 0) = 1
                """);
        edges.of(COUNTERS, AT_MOST_16, four + """
                promise(1, 0, 5) = 4
                promise(4, 0, 6) = 5
                finish(1, true) = 2
                promiseOf(0, 0) = 0
                promiseOf(1, 0) = 2
                promiseOf(2, 0) = 3
                promiseOf(3, 0) = 4
                promiseOf(4, 0) throws IndexOutOfBoundsException
                """);
        edges.of(COUNTERS, AT_MOST_16, four + """
                set(1, 9) = 10
                renew(0) = -1
                renew(3) = -1
                pass(9) = 2
                promiseOf(0, 0) = 1
                promiseOf(1, 0) = 2
                promiseOf(2, 0) throws IndexOutOfBoundsException
                """);
    }

    private static void lowAndHigh(Edges edges) {
        String told = "The low of a counter is its value plus all changes of it below 0 by promises; its high is its "
                + "value plus all those above 0.";
        edges.of(COUNTERS, told, """
                bounds(0, -100, 100) = 100
                bounds(1, -50, 50) = 100
                promise(0, 0, 7) = 0
                settle(0) = 7
                counter(0, 3) = 7
                counter(0, 4) = 7
                promise(0, 0, -20) = 0
                promise(1, 0, -30) = 1
                counter(0, 3) = -43
                counter(0, 4) = 7
                promise(2, 0, 5) = 2
                promise(3, 0, 6) = 3
                counter(0, 3) = -43
                counter(0, 4) = 18
                transfer(4, 0, 1, 10) = 4
                counter(0, 3) = -53
                counter(1, 4) = 10
                transfer(5, 1, 0, 8) = 5
                counter(0, 4) = 26
                counter(1, 3) = -8
                counter(0, 0) = 7
                counter(2, 3) = 0
                counter(2, 4) = 0
                settlePart(1, 12) = -18
                counter(0, 3) = -53
                counter(0, 4) = 14
                """);
    }

    private static void staysInside(Edges edges) {
        edges.of(COUNTERS, "A counter always has a low of at least its least value, and a high of at most its greatest "
                + "one.", """
                bounds(0, -10, 20) = 100
                bounds(1, -5, 5) = 100
                promise(0, 0, -11) throws IllegalStateException
                promise(0, 0, -10) = 0
                counter(0, 3) = -10
                promise(0, 0, -1) throws IllegalStateException
                promise(0, 0, 21) throws IllegalStateException
                promise(0, 0, 20) = 1
                counter(0, 4) = 20
                promise(0, 0, 1) throws IllegalStateException
                transfer(1, 0, 1, 1) throws IllegalStateException
                transfer(1, 1, 0, 1) throws IllegalStateException
                transfer(1, 1, 2, 6) throws IllegalStateException
                transfer(1, 1, 2, 5) = 2
                bounds(0, -9, 20) throws IllegalStateException
                bounds(0, -10, 19) throws IllegalStateException
                bounds(0, -10, 20) = 30
                type 0-1
                promiseAll() = 0
                type 0+1
                promiseAll() = 0
                type 2>0:1
                promiseAll() = 0
                count(1) = 3
                """);
        String four = """
                bounds(0, -10, 10) = 100
                bounds(1, -10, 0) = 100
                promise(0, 0, 7) = 0
                promise(0, 0, -6) = 1
                transfer(0, 0, 2, 4) = 2
                transfer(0, 1, 0, 3) = 3
                """;
        edges.of(COUNTERS, STAYS_INSIDE, four + """
                settle(1) = -6
                settle(1) = -10
                counter(0, 3) = -10
                settle(0) = -3
                settle(0) = -3
                counter(0, 0) = 0
                """);
        edges.of(COUNTERS, STAYS_INSIDE, four + """
                settle(3) = -3
                settle(0) = 10
                counter(0, 4) = 10
                promise(0, 0, 1) throws IllegalStateException
                settle(1) = 6
                settle(0) = 0
                counter(2, 0) = 4
                """);
    }

    private static void ends(Edges edges) {
        edges.of(COUNTERS, "When a promise is settled, its change is added to its counter (a transfer changes both "
                + "counters), and it ends.", """
                bounds(3, -50, 50) = 100
                promise(0, 0, 60) = 0
                promise(1, 3, -20) = 1
                transfer(2, 3, 1, 30) = 2
                settle(0) = 60
                counter(0, 0) = 60
                counter(0, 3) = 60
                count(1) = 2
                settle(0) = -20
                counter(3, 0) = -20
                counter(3, 4) = -20
                settle(0) = -50
                counter(3, 0) = -50
                counter(1, 0) = 30
                count(1) = 0
                count(7) = 40
                """);
        edges.of(COUNTERS, "When it is cancelled, or lapses, nothing is added, and it ends.", """
                bounds(3, -50, 50) = 100
                promise(0, 0, 60) = 0
                transfer(1, 3, 1, 30) = 1
                promise(2, 3, -20) = 2
                cancel(1) = 2
                cancel(1) = 1
                counter(3, 3) = 0
                counter(1, 4) = 0
                transfer(1, 3, 2, 50) = 1
                pass(10) = 2
                count(1) = 0
                counter(0, 0) = 0
                counter(0, 4) = 0
                counter(1, 0) = 0
                counter(2, 0) = 0
                counter(2, 4) = 0
                counter(3, 0) = 0
                counter(3, 3) = 0
                """);
    }

    private static void time(Edges edges) {
        edges.of(COUNTERS, "There is a time, at first 0.", "count(0) = 0");
        edges.of(COUNTERS, "A promise holds until the time at which it was made plus setting 1, as that was then.", """
                bounds(3, -9, 9) = 100
                set(1, 1) = 10
                promise(0, 0, 1) = 0
                promiseOf(0, 4) = 1
                set(1, 99) = 1
                promiseOf(0, 4) = 1
                promise(0, 0, 1) = 1
                promiseOf(1, 4) = 99
                pass(1) = 1
                promiseOf(0, 4) = 99
                promise(0, 0, 1) = 1
                transfer(0, 3, 1, 1) = 2
                type 0+1
                promiseAll() = 1
                set(1, 1) = 99
                promiseOf(1, 4) = 100
                promiseOf(2, 4) = 100
                promiseOf(3, 4) = 100
                pass(97) = 0
                pass(1) = 1
                pass(1) = 3
                """);
    }

    private static void lapses(Edges edges) {
        String told = "When time passes, unit by unit, all promises that hold until the new time lapse, by ascending "
                + "numbers.";
        edges.of(COUNTERS, told, """
                set(1, 2) = 10
                promise(0, 0, 1) = 0
                pass(1) = 0
                promise(1, 0, 2) = 1
                pass(1) = 1
                promiseOf(0, 0) = 1
                owner(0, 3) = 1
                owner(1, 3) = 0
                pass(1) = 1
                count(1) = 0
                owner(1, 3) = 1
                """);
        edges.of(COUNTERS, told, """
                promise(0, 0, 1) = 0
                set(1, 3) = 10
                promise(1, 1, 2) = 1
                promise(2, 2, 3) = 2
                set(1, 4) = 3
                promise(3, 3, 4) = 3
                promise(4, 0, 5) = 4
                pass(2) = 0
                pass(2) = 4
                promiseOf(0, 0) = 0
                count(1) = 1
                owner(0, 3) = 0
                owner(1, 3) = 1
                owner(2, 3) = 1
                owner(3, 3) = 1
                owner(4, 3) = 1
                """);
    }

    private static void reasonsOfNumber(Edges edges) {
        edges.of(REASONS, REASONS_TOLD, FIFTEEN + """
                bounds(1, 0, 5) = 100
                whyNot(0, 1, 5) = 0
                set(0, 15) = 16
                whyNot(0, 1, 5) = 2
                whyNot(0, 1, 6) = 2
                whyNot(0, 1, -1) = 2
                set(0, 1) = 15
                whyNot(0, 1, 5) = 2
                promise(0, 1, 5) throws IllegalStateException
                type 1+5
                promiseAll() = 0
                whyNot(1, 1, 5) = 0
                whyNot(1, 1, 6) = 4
                whyNot(1, 1, -1) = 3
                promise(1, 1, 5) = 15
                whyNot(0, 2, 1) = 1
                whyNot(0, 1, 6) = 1
                whyNot(1, 1, 6) = 1
                whyNot(2, 1, -1) = 1
                whyNot(2, 2, 1) = 1
                """);
        edges.of(REASONS, REASONS_TOLD, """
                set(0, 2) = 6
                bounds(3, -9, 9) = 100
                promise(4, 0, 1) = 0
                whyNot(4, 0, 1) = 0
                transfer(4, 3, 1, 1) = 1
                whyNot(4, 0, 1) = 2
                whyNot(3, 0, 1) = 0
                transfer(4, 3, 2, 1) throws IllegalStateException
                transfer(3, 3, 2, 1) = 2
                settle(1) = -1
                whyNot(4, 0, 1) = 0
                """);
    }

    private static void reasonsOfRoom(Edges edges) {
        edges.of(REASONS, REASONS_TOLD, """
                bounds(0, -20, 30) = 100
                whyNot(0, 0, -20) = 0
                whyNot(0, 0, -21) = 3
                whyNot(0, 0, 30) = 0
                whyNot(0, 0, 31) = 4
                promise(0, 0, -15) = 0
                promise(0, 0, 28) = 1
                whyNot(0, 0, -5) = 0
                whyNot(0, 0, -6) = 3
                whyNot(0, 0, 2) = 0
                whyNot(0, 0, 3) = 4
                settle(1) = 28
                whyNot(0, 0, 2) = 0
                whyNot(0, 0, 3) = 4
                whyNot(0, 0, -33) = 0
                whyNot(0, 0, -34) = 3
                """);
        edges.of(REASONS, REASONS_TOLD, """
                bounds(1, -20, 100) = 100
                bounds(2, 0, 10) = 100
                transfer(0, 1, 2, 11) throws IllegalStateException
                transfer(0, 1, 3, 21) throws IllegalStateException
                transfer(0, 0, 3, 1) throws IllegalStateException
                transfer(0, 1, 2, 10) = 0
                transfer(0, 1, 2, 1) throws IllegalStateException
                transfer(0, 1, 3, 11) throws IllegalStateException
                transfer(0, 1, 3, 10) = 1
                transfer(0, 2, 1, 1) throws IllegalStateException
                """);
    }

    private static void settings(Edges edges) {
        edges.of(SETTINGS, SETTINGS_TOLD, """
                setting(0) = 6
                setting(1) = 10
                type 0+1;0+1;0+1;0+1;0+1;0+1;0+1
                promiseAll() = 6
                set(0, 1) = 6
                promise(1, 0, 1) = 6
                promise(1, 0, 1) throws IllegalStateException
                set(0, 16) = 1
                type 0+1o1;0+1o1;0+1o1;0+1o1;0+1o1;0+1o1;0+1o1;0+1o1
                promiseAll() = 8
                finish(0, false) = 6
                count(1) = 9
                type 0+1o1;0+1o1;0+1o1;0+1o1;0+1o1;0+1o1;0+1o1;0+1o1
                promiseAll() = 7
                owner(1, 0) = 16
                """);
        edges.of(SETTINGS, SETTINGS_TOLD, """
                promise(0, 0, 1) = 0
                set(1, 1) = 10
                promise(0, 0, 1) = 1
                set(1, 99) = 1
                promise(0, 0, 1) = 2
                promiseOf(0, 5) = 10
                promiseOf(1, 5) = 1
                promiseOf(2, 5) = 99
                pass(1) = 1
                pass(8) = 0
                pass(1) = 1
                pass(88) = 0
                pass(1) = 1
                """);
        edges.outside(SETTINGS, SETTINGS_TOLD, "", "set(0, #)", Edges.ARGUMENT, 0, -1, 17, 99);
        edges.outside(SETTINGS, SETTINGS_TOLD, "", "set(1, #)", Edges.ARGUMENT, 0, -1, 100);
        edges.of("Exceptions", "The constants: `NONE = -1`: There is nothing to return.", """
                promise(0, 0, 1) = 0
                promiseOf(0, 3) = -1
                canBe(0, 2) = -1
                cancel(0) = 0
                count(8) = -1
                """);
        edges.due("Exceptions", "The constants: `NONE = -1`: There is nothing to return.", "NONE",
                PromisedCounters.NONE, -1);
    }
}
