import java.util.List;

/** The sentences of promises 17 to 21. */
final class LookEdges {
    private static final String OF_COUNTER = "`what`: 0: its value; 1: its least value; 2: its greatest value; 3: "
            + "its low; 4: its high; 5: promises that change it; 6: the sum of their changes of it; 7: its low less "
            + "the least value; 8: the greatest value less its high; 9: how many unlike values it could have behind "
            + "the settlement of any of these promises (also of none, or of all)";
    private static final String OF_PROMISE = "`what`: 0: its owner; 1: its counter; 2: its change, as it is now; 3: "
            + "the other counter of a transfer, NONE if it is none; 4: the time until which it holds; 5: the units "
            + "until then";
    private static final String OF_OWNER = "`what`: 0: promises; 1: those that were settled so far, as a whole; 2: "
            + "cancelled; 3: lapsed; 4: the sum of the sizes of the changes of the promises, without signs (a transfer "
            + "counts once)";
    private static final String OF_ALL = "`what`: 0: the time; 1: promises; 2: transfers among them; 3: promises that "
            + "were made so far; 4: settled so far, as a whole; 5: cancelled so far; 6: lapsed so far; 7: the sum of "
            + "all values; 8: the first time at which a promise lapses, NONE without one; 9: saved states";

    /** Sixteen promises that bring the low and the high of counter 0 as far apart as can be, two of them transfers. */
    static final String FARTHEST = """
            set(0, 16) = 6
            bounds(0, -999, 999) = 100
            bounds(1, -999, 999) = 100
            type 0+99;0-99;0+99;0-99;0+99;0-99;0+99;0-99
            promiseAll() = 8
            type 0+99;0>1:99;0+99;0-99;0+99;0-99;1>0:99;0-99
            promiseAll() = 8
            """;

    static void run(Edges edges) {
        counter(edges);
        unlikeValues(edges);
        promiseOf(edges);
        owner(edges);
        count(edges);
        setting(edges);
    }

    private static void counter(Edges edges) {
        edges.of("17", List.of("Returns a property of a counter.", "Returns the property."), """
                bounds(1, -70, 90) = 100
                promise(0, 1, 8) = 0
                settle(0) = 8
                counter(1, 0) = 8
                counter(1, 1) = -70
                counter(1, 2) = 90
                counter(1, 3) = 8
                counter(1, 4) = 8
                counter(1, 5) = 0
                counter(1, 6) = 0
                counter(1, 7) = 78
                counter(1, 8) = 82
                counter(1, 9) = 1
                """);
        edges.of("17", "`counter`: 0 to 3", """
                bounds(0, -1, 4) = 100
                bounds(3, -5, 9) = 100
                counter(0, 1) = -1
                counter(3, 1) = -5
                """);
        edges.of("17", OF_COUNTER, """
                bounds(1, -70, 90) = 100
                promise(0, 1, 10) = 0
                promise(1, 1, -20) = 1
                transfer(2, 1, 2, 30) = 2
                promise(3, 3, 5) = 3
                counter(1, 0) = 0
                counter(1, 1) = -70
                counter(1, 2) = 90
                counter(1, 3) = -50
                counter(1, 4) = 10
                counter(1, 5) = 3
                counter(1, 6) = -40
                counter(1, 7) = 20
                counter(1, 8) = 80
                counter(1, 9) = 7
                counter(2, 3) = 0
                counter(2, 4) = 30
                counter(2, 5) = 1
                counter(2, 6) = 30
                counter(2, 7) = 0
                counter(2, 8) = 70
                counter(2, 9) = 2
                settlePart(1, 20) throws IllegalArgumentException
                settlePart(1, 19) = -1
                counter(1, 0) = -19
                counter(1, 3) = -50
                counter(1, 4) = -9
                counter(1, 5) = 3
                counter(1, 6) = -21
                """);
        edges.of("17", OF_COUNTER, """
                bounds(0, 0, 5) = 100
                promise(0, 0, 5) = 0
                counter(0, 7) = 0
                counter(0, 8) = 0
                settle(0) = 5
                counter(0, 7) = 5
                counter(0, 8) = 0
                promise(0, 0, -5) = 0
                counter(0, 7) = 0
                counter(0, 8) = 0
                """);
        edges.outside("17", "Throws `IndexOutOfBoundsException` if there is no such counter", "", "counter(#, 0)",
                Edges.INDEX, -1, 4, Integer.MIN_VALUE, Integer.MAX_VALUE);
        edges.outside("17", "Throws `IllegalArgumentException` if what is not 0 to 9", "", "counter(0, #)",
                Edges.ARGUMENT, -1, 10, Integer.MIN_VALUE, Integer.MAX_VALUE);
    }

    private static void unlikeValues(Edges edges) {
        edges.of("17", OF_COUNTER, """
                counter(0, 9) = 1
                promise(0, 0, 5) = 0
                counter(0, 9) = 2
                promise(0, 0, 5) = 1
                counter(0, 9) = 3
                promise(0, 0, 10) = 2
                counter(0, 9) = 5
                bounds(0, -100, 100) = 100
                promise(0, 0, -10) = 3
                counter(0, 9) = 7
                promise(0, 0, -1) = 4
                counter(0, 9) = 14
                counter(1, 9) = 1
                settle(4) = -1
                counter(0, 9) = 7
                """);
        edges.of("17", OF_COUNTER, """
                set(0, 16) = 6
                bounds(0, -999, 999) = 100
                type 0+1;0+2;0+4;0+8;0+16;0+32;0+64;0-1;0-2;0-4;0-8;0-16;0-32
                promiseAll() = 13
                counter(0, 9) = 191
                promise(0, 0, -64) = 13
                counter(0, 9) = 255
                promise(0, 0, 99) = 14
                counter(0, 9) = 354
                promise(0, 0, -99) = 15
                counter(0, 9) = 453
                """);
        edges.of("17", OF_COUNTER, sixteen("0+62") + """
                counter(0, 4) = 992
                counter(0, 9) = 17
                settle(0) = 62
                counter(0, 9) = 16
                """);
        edges.of("17", OF_COUNTER, sixteen("0-62") + """
                counter(0, 3) = -992
                counter(0, 9) = 17
                cancel(15) = 15
                counter(0, 9) = 16
                """);
        edges.of("17", OF_COUNTER, FARTHEST + """
                counter(0, 3) = -792
                counter(0, 4) = 792
                counter(0, 9) = 17
                counter(1, 9) = 3
                """);
    }

    /** Sixteen promises of the same change of counter 0, which has the widest bounds. */
    private static String sixteen(String part) {
        String eight = "type " + (part + ";").repeat(7) + part + "\npromiseAll() = 8\n";
        return "set(0, 16) = 6\nbounds(0, -999, 999) = 100\n" + eight + eight;
    }

    private static void promiseOf(Edges edges) {
        edges.of("18", List.of("Returns a property of a promise.", "Returns the property."), """
                pass(2) = 0
                promise(3, 1, 9) = 0
                promiseOf(0, 0) = 3
                promiseOf(0, 1) = 1
                promiseOf(0, 2) = 9
                promiseOf(0, 3) = -1
                promiseOf(0, 4) = 12
                promiseOf(0, 5) = 10
                """);
        edges.of("18", "`promise`: its number", TermEdges.FIFTEEN + """
                promise(5, 3, 2) = 15
                promiseOf(15, 0) = 5
                promiseOf(0, 0) = 0
                promiseOf(16, 0) throws IndexOutOfBoundsException
                cancel(0) = 15
                promiseOf(14, 0) = 5
                promiseOf(15, 0) throws IndexOutOfBoundsException
                """);
        edges.of("18", OF_PROMISE, """
                bounds(3, -9, 9) = 100
                promise(5, 2, 33) = 0
                pass(4) = 0
                transfer(4, 3, 0, 9) = 1
                settlePart(0, 11) = 22
                settlePart(1, 2) = -7
                promiseOf(0, 0) = 5
                promiseOf(0, 1) = 2
                promiseOf(0, 2) = 22
                promiseOf(0, 3) = -1
                promiseOf(0, 4) = 10
                promiseOf(0, 5) = 6
                promiseOf(1, 0) = 4
                promiseOf(1, 1) = 3
                promiseOf(1, 2) = -7
                promiseOf(1, 3) = 0
                promiseOf(1, 4) = 14
                promiseOf(1, 5) = 10
                pass(5) = 0
                promiseOf(0, 5) = 1
                pass(1) = 1
                promiseOf(0, 5) = 4
                """);
        edges.outside("18", "Throws `IndexOutOfBoundsException` if there is no such promise", "promise(0, 0, 1) = 0\n",
                "promiseOf(#, 0)", Edges.INDEX, -1, 1, 15, 16, Integer.MIN_VALUE, Integer.MAX_VALUE);
        edges.outside("18", "Throws `IndexOutOfBoundsException` if there is no such promise", "", "promiseOf(#, 0)",
                Edges.INDEX, 0, -1);
        edges.outside("18", "Throws `IllegalArgumentException` if what is not 0 to 5", "promise(0, 0, 1) = 0\n",
                "promiseOf(0, #)", Edges.ARGUMENT, -1, 6, Integer.MIN_VALUE, Integer.MAX_VALUE);
    }

    private static void owner(Edges edges) {
        edges.of("19", List.of("Returns a property of an owner.", "Returns the property."), """
                owner(0, 0) = 0
                owner(0, 1) = 0
                owner(0, 2) = 0
                owner(0, 3) = 0
                owner(0, 4) = 0
                promise(0, 0, 99) = 0
                owner(0, 0) = 1
                owner(0, 4) = 99
                """);
        edges.of("19", "`owner`: 0 to 5", """
                promise(0, 0, 1) = 0
                promise(5, 0, 2) = 1
                owner(0, 4) = 1
                owner(5, 4) = 2
                owner(4, 4) = 0
                """);
        edges.of("19", OF_OWNER, """
                bounds(0, -99, 99) = 100
                promise(2, 0, 5) = 0
                promise(2, 0, -6) = 1
                transfer(2, 0, 1, 7) = 2
                promise(3, 1, 8) = 3
                owner(2, 0) = 3
                owner(2, 4) = 18
                settlePart(1, 2) = -4
                owner(2, 4) = 16
                owner(2, 1) = 0
                settle(0) = 3
                owner(2, 1) = 1
                cancel(0) = 2
                owner(2, 2) = 1
                owner(2, 0) = 1
                owner(2, 3) = 0
                owner(2, 4) = 7
                pass(10) = 2
                owner(2, 1) = 1
                owner(2, 2) = 1
                owner(2, 3) = 1
                owner(3, 3) = 1
                owner(3, 1) = 0
                owner(2, 0) = 0
                owner(2, 4) = 0
                """);
        edges.of("19", OF_OWNER, TermEdges.FIFTEEN + """
                promise(0, 1, 99) = 15
                owner(0, 0) = 16
                owner(0, 4) = 114
                finish(0, false) = 16
                owner(0, 2) = 16
                promise(0, 1, 99) = 0
                finish(0, true) = 1
                owner(0, 1) = 1
                owner(0, 2) = 16
                """);
        edges.outside("19", "Throws `IndexOutOfBoundsException` if there is no such owner", "", "owner(#, 0)",
                Edges.INDEX, -1, 6, Integer.MIN_VALUE, Integer.MAX_VALUE);
        edges.outside("19", "Throws `IllegalArgumentException` if what is not 0 to 4", "", "owner(0, #)",
                Edges.ARGUMENT, -1, 5, Integer.MIN_VALUE, Integer.MAX_VALUE);
    }

    private static void count(Edges edges) {
        edges.of("20", List.of("Returns a number.", "Returns the number."), """
                count(1) = 0
                promise(0, 0, 1) = 0
                count(1) = 1
                count(9) = 1
                """);
        edges.of("20", OF_ALL, """
                bounds(0, -99, 99) = 100
                promise(0, 0, 5) = 0
                pass(2) = 0
                transfer(1, 0, 1, 7) = 1
                type 2+8o2;2+9o2;1+1o3
                promiseAll() = 3
                count(0) = 2
                count(1) = 5
                count(2) = 1
                count(3) = 5
                count(4) = 0
                count(7) = 0
                count(8) = 10
                count(9) = 5
                settlePart(1, 3) = -4
                count(4) = 0
                count(7) = 0
                settlePart(2, 3) = 5
                count(7) = 3
                settle(2) = 8
                count(4) = 1
                count(7) = 8
                cancel(1) = 3
                count(2) = 0
                count(5) = 1
                finish(3, true) = 1
                count(4) = 2
                count(5) = 1
                finish(2, false) = 1
                count(5) = 2
                count(1) = 1
                pass(8) = 1
                count(6) = 1
                count(3) = 5
                count(1) = 0
                count(0) = 10
                count(9) = 6
                """);
        edges.of("20", OF_ALL, """
                count(8) = -1
                promise(0, 0, 1) = 0
                count(8) = 10
                set(1, 5) = 10
                promise(0, 0, 1) = 1
                count(8) = 5
                set(1, 50) = 5
                promise(0, 0, 1) = 2
                count(8) = 5
                renew(1) = 45
                count(8) = 10
                pass(10) = 1
                count(8) = 50
                finish(0, true) = 2
                count(8) = -1
                """);
        edges.of("20", OF_ALL, """
                bounds(0, -99, 0) = 100
                promise(0, 0, -99) = 0
                settle(0) = -99
                count(7) = -99
                promise(0, 3, 98) = 0
                settle(0) = 98
                count(7) = -1
                bounds(1, -9, 9) = 100
                transfer(0, 1, 2, 9) = 0
                settle(0) = -9
                count(7) = -1
                count(9) = 6
                """);
        edges.of("20", OF_ALL, """
                bounds(0, -99, 99) = 100
                promise(0, 0, -5) = 0
                promise(0, 0, 5) = 1
                count(2) = 0
                transfer(1, 0, 3, 5) = 2
                transfer(1, 0, 3, 5) = 3
                count(2) = 2
                settlePart(2, 4) = -1
                count(2) = 2
                settle(2) = -5
                count(2) = 1
                pass(10) = 3
                count(2) = 0
                """);
        edges.outside("20", "Throws `IllegalArgumentException` if what is not 0 to 9", "", "count(#)", Edges.ARGUMENT,
                -1, 10, Integer.MIN_VALUE, Integer.MAX_VALUE);
    }

    private static void setting(Edges edges) {
        edges.of("21", List.of("Returns a setting.", "Returns its value."), """
                setting(0) = 6
                setting(1) = 10
                set(0, 16) = 6
                set(1, 99) = 10
                setting(0) = 16
                setting(1) = 99
                """);
        edges.of("21", "`setting`: 0 or 1", """
                set(1, 1) = 10
                setting(0) = 6
                setting(1) = 1
                """);
        edges.outside("21", "Throws `IndexOutOfBoundsException` if there is no such setting", "", "setting(#)",
                Edges.INDEX, -1, 2, Integer.MIN_VALUE, Integer.MAX_VALUE);
    }
}
