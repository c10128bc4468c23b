import java.util.List;

/** The sentences of promises 22 to 27. */
final class WouldBeEdges {
    private static final String NO_OWNER_OR_COUNTER =
            "Throws `IndexOutOfBoundsException` if there is no such owner or counter";
    private static final String FEWEST = "Returns the fewest of the promises that change it whose settlement (and no "
            + "other) would give it this value; NONE if there are none such.";
    private static final String MOST = "Returns the greatest size of a change, 1 to 99, against which there would be "
            + "no reason; 0 if there is none.";
    private static final String ROOM_THEN = "`what`: 0: how many promises would lapse in it; 1 to 4: the room below "
            + "the low of the counter 0 to 3, as counter(.., 7), then";
    private static final String SHARE = "Returns the sum of high less low over all counters, as a double, divided by "
            + "the sum of greatest less least values; 0.0 if that is 0.";
    private static final String VALUES = "The values are: count(0) to count(9); the settings 0 and 1; for each counter "
            + "its properties 0 to 9, canBe of 5, and mostFor of the owner 0, above and then below 0; for each promise "
            + "its properties 0 to 5; for each owner the properties 0 to 4, and whyNot for the counter 1 by 7; "
            + "ifPassed of 5 with 0 to 4; the bits of heldShare (as Double.doubleToLongBits); the length of the buffer "
            + "and each of its character codes.";
    private static final int[] NO_OWNERS = {-1, 6, Integer.MIN_VALUE, Integer.MAX_VALUE};
    private static final int[] NO_COUNTERS = {-1, 4, Integer.MIN_VALUE, Integer.MAX_VALUE};

    static void run(Edges edges) {
        whyNot(edges);
        canBe(edges);
        mostFor(edges);
        ifPassed(edges);
        ifPassedOutside(edges);
        heldShare(edges);
        digestOfNew(edges);
        digestOfFull(edges);
        digestOfArguments(edges);
        digestOfShares(edges);
        digestOfBuffer(edges);
    }

    private static void whyNot(Edges edges) {
        edges.of("22", "Tells why a promise would be refused.", """
                bounds(0, -5, 5) = 100
                whyNot(0, 0, 5) = 0
                promise(0, 0, 5) = 0
                whyNot(0, 0, 1) = 4
                promise(0, 0, 1) throws IllegalStateException
                whyNot(0, 0, -5) = 0
                promise(0, 0, -5) = 1
                whyNot(0, 0, -1) = 3
                promise(0, 0, -1) throws IllegalStateException
                count(1) = 2
                """);
        edges.of("22", "`owner`: 0 to 5", """
                set(0, 1) = 6
                promise(0, 0, 1) = 0
                promise(5, 0, 1) = 1
                whyNot(0, 0, 1) = 2
                whyNot(5, 0, 1) = 2
                whyNot(4, 0, 1) = 0
                """);
        edges.of("22", "`counter`: 0 to 3", """
                bounds(0, -5, 5) = 100
                bounds(3, 0, 0) = 100
                whyNot(0, 0, 5) = 0
                whyNot(0, 0, 6) = 4
                whyNot(0, 3, 1) = 4
                whyNot(0, 2, 1) = 0
                whyNot(0, 0, -5) = 0
                whyNot(0, 3, -1) = 3
                """);
        edges.of("22", "`by`: -99 to 99, not 0", """
                bounds(0, -99, 99) = 100
                whyNot(0, 0, 99) = 0
                whyNot(0, 0, -99) = 0
                whyNot(0, 0, 1) = 0
                whyNot(0, 0, -1) = 0
                bounds(0, -98, 98) = 198
                whyNot(0, 0, 99) = 4
                whyNot(0, 0, -99) = 3
                """);
        edges.of("22", "Returns the reason against it, 0 if there is none.", TermEdges.FIFTEEN + """
                bounds(1, -3, 3) = 100
                whyNot(0, 1, 3) = 0
                whyNot(0, 1, -3) = 0
                whyNot(0, 1, -4) = 3
                whyNot(0, 1, 4) = 4
                set(0, 15) = 16
                whyNot(0, 1, 3) = 2
                whyNot(0, 1, -4) = 2
                whyNot(0, 1, 4) = 2
                whyNot(1, 1, 4) = 4
                promise(1, 1, 3) = 15
                whyNot(0, 1, 1) = 1
                whyNot(0, 1, -4) = 1
                whyNot(2, 1, -4) = 1
                whyNot(2, 1, 1) = 1
                whyNot(2, 2, 1) = 1
                """);
        edges.outside("22", NO_OWNER_OR_COUNTER, "", "whyNot(#, 0, 1)", Edges.INDEX, NO_OWNERS);
        edges.outside("22", NO_OWNER_OR_COUNTER, "", "whyNot(0, #, 1)", Edges.INDEX, NO_COUNTERS);
        edges.outside("22", "Throws `IllegalArgumentException` if by is out of range", "", "whyNot(0, 0, #)",
                Edges.ARGUMENT, 0, 100, -100, Integer.MIN_VALUE, Integer.MAX_VALUE);
    }

    private static void canBe(Edges edges) {
        edges.of("23", "Tells whether a counter could have a value.", """
                bounds(2, -7, 0) = 100
                promise(0, 2, -7) = 0
                canBe(2, 0) = 0
                canBe(2, -7) = 1
                canBe(2, -1) = -1
                canBe(2, 7) = -1
                """);
        edges.of("23", "`counter`: 0 to 3", """
                promise(0, 0, 4) = 0
                promise(0, 3, 9) = 1
                canBe(0, 0) = 0
                canBe(0, 4) = 1
                canBe(0, 9) = -1
                canBe(3, 9) = 1
                canBe(3, 4) = -1
                canBe(1, 4) = -1
                canBe(1, 0) = 0
                """);
        edges.of("23", "`value`: any value", """
                promise(0, 0, 4) = 0
                canBe(0, -1) = -1
                canBe(0, 5) = -1
                canBe(0, 100) = -1
                canBe(0, 101) = -1
                canBe(0, -1000) = -1
                canBe(0, 1000) = -1
                canBe(0, 2147483647) = -1
                canBe(0, -2147483648) = -1
                bounds(0, -999, 999) = 100
                promise(0, 0, -4) = 1
                canBe(0, 2147483647) = -1
                canBe(0, -2147483648) = -1
                canBe(0, -4) = 1
                canBe(0, -5) = -1
                """);
        edges.of("23", FEWEST, """
                bounds(0, -100, 100) = 100
                promise(0, 0, 2) = 0
                promise(1, 0, 3) = 1
                promise(2, 0, 5) = 2
                promise(3, 0, -5) = 3
                transfer(4, 0, 1, 1) = 4
                canBe(0, 0) = 0
                canBe(0, 5) = 1
                canBe(0, 10) = 3
                canBe(0, 9) = 4
                canBe(0, 4) = 2
                canBe(0, 1) = 2
                canBe(0, 6) = 3
                canBe(0, -6) = 2
                canBe(0, -7) = -1
                canBe(0, 11) = -1
                canBe(1, 1) = 1
                canBe(1, 0) = 0
                canBe(1, -1) = -1
                settle(2) = 5
                canBe(0, 5) = 0
                canBe(0, 0) = 1
                canBe(0, 10) = 2
                canBe(0, -1) = 2
                settlePart(0, 1) = 1
                canBe(0, 6) = 0
                canBe(0, 5) = 1
                """);
        edges.of("23", FEWEST, TermEdges.FIFTEEN + """
                promise(1, 0, 15) = 15
                canBe(0, 15) = 1
                canBe(0, 14) = 14
                canBe(0, 16) = 2
                canBe(0, 29) = 15
                canBe(0, 30) = 16
                canBe(0, 31) = -1
                """);
        edges.of("23", FEWEST, """
                bounds(0, -9, 9) = 100
                promise(0, 0, 9) = 0
                promise(0, 0, -9) = 1
                canBe(0, 0) = 0
                canBe(0, 9) = 1
                canBe(0, -9) = 1
                canBe(0, 1) = -1
                canBe(0, 10) = -1
                canBe(0, -10) = -1
                canBe(0, 18) = -1
                """);
        edges.of("23", FEWEST, LookEdges.FARTHEST + """
                canBe(0, 792) = 8
                canBe(0, -792) = 8
                canBe(0, 0) = 0
                canBe(0, 99) = 1
                canBe(0, -693) = 7
                canBe(0, 791) = -1
                canBe(0, 793) = -1
                canBe(0, -793) = -1
                canBe(1, 99) = 1
                canBe(1, -99) = 1
                """);
        edges.outside("23", "Throws `IndexOutOfBoundsException` if there is no such counter", "", "canBe(#, 0)",
                Edges.INDEX, NO_COUNTERS);
    }

    private static void mostFor(Edges edges) {
        edges.of("24", "Finds the greatest change that could be promised.", """
                promise(0, 2, 40) = 0
                mostFor(1, 2, true) = 60
                promise(1, 2, 61) throws IllegalStateException
                promise(1, 2, 60) = 1
                """);
        edges.of("24", "`isMore`: whether a change above 0 is asked for, otherwise one below 0", """
                bounds(0, -20, 30) = 100
                mostFor(0, 0, true) = 30
                mostFor(0, 0, false) = 20
                promise(0, 0, 12) = 0
                mostFor(0, 0, true) = 18
                mostFor(0, 0, false) = 20
                promise(0, 0, -13) = 1
                mostFor(0, 0, true) = 18
                mostFor(0, 0, false) = 7
                """);
        edges.of("24", "`owner`: 0 to 5", """
                set(0, 1) = 6
                promise(0, 0, 1) = 0
                promise(5, 3, 2) = 1
                mostFor(0, 0, true) = 0
                mostFor(5, 0, true) = 0
                mostFor(4, 0, true) = 99
                """);
        edges.of("24", "`counter`: 0 to 3", """
                bounds(0, -3, 7) = 100
                bounds(3, -5, 9) = 100
                mostFor(0, 0, true) = 7
                mostFor(0, 3, true) = 9
                mostFor(0, 0, false) = 3
                mostFor(0, 3, false) = 5
                mostFor(0, 1, true) = 99
                """);
        edges.of("24", MOST, """
                mostFor(0, 0, true) = 99
                mostFor(0, 0, false) = 0
                bounds(0, -100, 99) = 100
                mostFor(0, 0, true) = 99
                mostFor(0, 0, false) = 99
                bounds(0, -99, 98) = 199
                mostFor(0, 0, true) = 98
                mostFor(0, 0, false) = 99
                bounds(0, -98, 999) = 197
                mostFor(0, 0, true) = 99
                mostFor(0, 0, false) = 98
                bounds(0, -1, 1) = 1097
                mostFor(0, 0, true) = 1
                mostFor(0, 0, false) = 1
                promise(0, 0, 1) = 0
                mostFor(0, 0, true) = 0
                promise(0, 0, -1) = 1
                mostFor(0, 0, false) = 0
                """);
        edges.of("24", MOST, TermEdges.FIFTEEN + """
                mostFor(0, 1, true) = 99
                set(0, 15) = 16
                mostFor(0, 1, true) = 0
                mostFor(1, 1, true) = 99
                set(0, 1) = 15
                mostFor(0, 1, true) = 0
                mostFor(0, 0, false) = 0
                promise(1, 1, 1) = 15
                mostFor(2, 1, true) = 0
                mostFor(2, 2, true) = 0
                cancel(0) = 15
                mostFor(2, 2, true) = 99
                """);
        edges.outside("24", NO_OWNER_OR_COUNTER, "", "mostFor(#, 0, true)", Edges.INDEX, NO_OWNERS);
        edges.outside("24", NO_OWNER_OR_COUNTER, "", "mostFor(0, #, false)", Edges.INDEX, NO_COUNTERS);
    }

    private static void ifPassed(Edges edges) {
        edges.of("25", "Returns the number.", """
                promise(0, 0, 1) = 0
                ifPassed(10, 0) = 1
                ifPassed(10, 1) = 0
                count(0) = 0
                count(1) = 1
                """);
        edges.of("25", "Tells what time would bring (the limit of 9999 does not matter).", CallEdges.lastTime() + """
                bounds(1, -9, 9) = 100
                promise(0, 1, -5) = 0
                ifPassed(9, 0) = 0
                ifPassed(9, 2) = 4
                ifPassed(10, 0) = 1
                ifPassed(10, 2) = 9
                ifPassed(200, 0) = 1
                """);
        edges.of("25", "`units`: 0 to 200", """
                bounds(0, -50, 50) = 100
                promise(0, 0, -30) = 0
                set(1, 99) = 10
                pass(9) = 0
                promise(0, 0, -5) = 1
                ifPassed(0, 0) = 0
                ifPassed(0, 1) = 15
                ifPassed(1, 0) = 1
                ifPassed(1, 1) = 45
                ifPassed(98, 0) = 1
                ifPassed(98, 1) = 45
                ifPassed(99, 0) = 2
                ifPassed(99, 1) = 50
                ifPassed(200, 0) = 2
                ifPassed(200, 1) = 50
                count(0) = 9
                count(1) = 2
                """);
        edges.of("25", ROOM_THEN, """
                bounds(0, -100, 100) = 100
                bounds(3, -50, 100) = 100
                promise(0, 0, -30) = 0
                pass(2) = 0
                promise(1, 0, -20) = 1
                transfer(2, 3, 1, 7) = 2
                promise(3, 0, 10) = 3
                ifPassed(0, 0) = 0
                ifPassed(0, 1) = 50
                ifPassed(0, 2) = 0
                ifPassed(0, 3) = 0
                ifPassed(0, 4) = 43
                ifPassed(7, 0) = 0
                ifPassed(7, 1) = 50
                ifPassed(8, 0) = 1
                ifPassed(8, 1) = 80
                ifPassed(9, 0) = 1
                ifPassed(9, 1) = 80
                ifPassed(9, 4) = 43
                ifPassed(10, 0) = 4
                ifPassed(10, 1) = 100
                ifPassed(10, 2) = 0
                ifPassed(10, 4) = 50
                settlePart(1, 15) = -5
                ifPassed(9, 1) = 80
                ifPassed(10, 1) = 85
                counter(0, 7) = 50
                """);
        edges.of("25", ROOM_THEN, TermEdges.FIFTEEN + """
                promise(1, 1, 1) = 15
                ifPassed(9, 0) = 0
                ifPassed(10, 0) = 16
                count(1) = 16
                """);
    }

    private static void ifPassedOutside(Edges edges) {
        String told = "Throws `IllegalArgumentException` if units or what is out of range";
        edges.outside("25", told, "", "ifPassed(#, 0)", Edges.ARGUMENT, -1, 201, Integer.MIN_VALUE, Integer.MAX_VALUE);
        edges.outside("25", told, "", "ifPassed(#, 4)", Edges.ARGUMENT, -1, 201, Integer.MIN_VALUE, Integer.MAX_VALUE);
        edges.outside("25", told, "", "ifPassed(0, #)", Edges.ARGUMENT, -1, 5, Integer.MIN_VALUE, Integer.MAX_VALUE);
        edges.outside("25", told, "", "ifPassed(200, #)", Edges.ARGUMENT, -1, 5);
    }

    private static void heldShare(Edges edges) {
        edges.of("26", "Returns how much of the room is held by promises.", """
                heldShare() = 0.0
                promise(0, 0, 40) = 0
                heldShare() = 0.1
                settlePart(0, 10) = 30
                heldShare() = 0.075
                settle(0) = 40
                heldShare() = 0.0
                promise(0, 0, -40) = 0
                heldShare() = 0.1
                cancel(0) = 0
                heldShare() = 0.0
                """);
        edges.of("26", SHARE, """
                bounds(0, -20, 80) = 100
                promise(0, 0, 8) = 0
                promise(0, 0, -20) = 1
                heldShare() = 0.07
                bounds(1, -50, 250) = 100
                heldShare() = 0.04666666666666667
                transfer(0, 1, 2, 50) = 2
                heldShare() = 0.21333333333333335
                """);
        String noRoom = """
                bounds(0, 0, 0) = 100
                bounds(1, 0, 0) = 100
                bounds(2, 0, 0) = 100
                bounds(3, 0, 0) = 100
                heldShare() = 0.0
                """;
        edges.of("26", SHARE, noRoom);
        edges.of("26", SHARE, "promise(0, 3, 5) = 0\nsettle(0) = 5\n" + noRoom.replace("(3, 0, 0)", "(3, 5, 5)"));
        edges.of("26", SHARE, """
                bounds(0, 0, 3) = 100
                bounds(1, 0, 0) = 100
                bounds(2, 0, 0) = 100
                bounds(3, 0, 0) = 100
                heldShare() = 0.0
                promise(0, 0, 1) = 0
                heldShare() = 0.3333333333333333
                promise(0, 0, 2) = 1
                heldShare() = 1.0
                """);
        edges.of("26", SHARE, """
                bounds(0, -999, 999) = 100
                bounds(1, -999, 999) = 100
                bounds(2, -999, 999) = 100
                bounds(3, -999, 999) = 100
                promise(0, 0, 1) = 0
                heldShare() = 1.2512512512512512E-4
                """);
    }

    private static void digestOfNew(Edges edges) {
        long[] counter = {0, 0, 100, 0, 0, 0, 0, 0, 100, 1, -1, 99, 0};
        long hash = 2713L;
        hash = hashed(hash, 0, 0, 0, 0, 0, 0, 0, 0, -1, 0);
        hash = hashed(hash, 6, 10);
        for (int c = 0; c < 4; c++) {
            hash = hashed(hash, counter);
        }
        hash = hashed(hash, new long[6 * 6]);
        hash = hashed(hash, new long[5]);
        hash = hashed(hash, 0, 0);
        String what = "of a new object";
        edges.due("27", "Computes a hash of the whole state.", what, new PromisedCounters().digest(), hash);
        edges.due("27", "The hash starts at 2713.", what, new PromisedCounters().digest(), hash);
        edges.due("27", "For each value v of the following list, in order, the hash becomes 31 * hash + v, in long "
                + "arithmetic with overflow.", what, new PromisedCounters().digest(), hash);
        edges.due("27", "Returns the hash.", what, new PromisedCounters().digest(), hash);
    }

    private static void digestOfFull(Edges edges) {
        PromisedCounters counters = full();
        edges.due("27", VALUES, "promises", counters.count(1), 16);
        StringBuilder buffer = new StringBuilder();
        for (int code = 67; code <= 126; code++) {
            counters.append(code);
            buffer.append((char) code);
        }
        edges.due("27", VALUES, "sixteen promises and 60 characters", counters.digest(),
                Digests.byCalls(counters, buffer.toString()));
        PromisedCounters other = full();
        edges.due("27", VALUES, "an empty buffer", other.digest(), Digests.byCalls(other, ""));
        other.pass(3);
        edges.due("27", VALUES, "twelve have lapsed", other.digest(), Digests.byCalls(other, ""));
    }

    /** Sixteen promises, none of them alike, twelve of them until 4. */
    private static PromisedCounters full() {
        PromisedCounters counters = new PromisedCounters();
        counters.bounds(1, -400, 900);
        counters.bounds(2, -10, 30);
        counters.set(1, 4);
        for (int p = 0; p < 12; p++) {
            counters.promise(p % 6, 1, p % 2 == 0 ? 10 + p : -10 - p);
        }
        counters.pass(1);
        counters.set(1, 5);
        counters.promise(1, 2, -5);
        counters.transfer(2, 1, 0, 5);
        counters.promise(3, 3, 5);
        counters.promise(4, 0, 6);
        return counters;
    }

    /** States in which the calls in the list would answer something else with other arguments. */
    private static void digestOfArguments(Edges edges) {
        for (int most = 6; most <= 8; most++) {
            PromisedCounters roomy = new PromisedCounters();
            roomy.bounds(1, 0, most);
            edges.due("27", VALUES, "whyNot, room " + most, roomy.digest(), Digests.byCalls(roomy, ""));
            PromisedCounters tight = new PromisedCounters();
            tight.bounds(0, 0, most);
            tight.bounds(2, 0, most);
            edges.due("27", VALUES, "whyNot, no room " + most, tight.digest(), Digests.byCalls(tight, ""));
        }
        for (int near = 4; near <= 6; near++) {
            PromisedCounters counters = new PromisedCounters();
            counters.set(1, near);
            counters.promise(0, 3, near);
            edges.due("27", VALUES, "canBe and ifPassed of " + near, counters.digest(), Digests.byCalls(counters, ""));
        }
        for (int owner = 0; owner <= 5; owner++) {
            PromisedCounters counters = new PromisedCounters();
            counters.bounds(2, -50, 50);
            counters.set(0, 1);
            counters.promise(owner, 1, 1);
            edges.due("27", VALUES, "mostFor, owner " + owner, counters.digest(), Digests.byCalls(counters, ""));
        }
    }

    /** Shares with few bits and with many, near to 1.0 and far below it. */
    private static void digestOfShares(Edges edges) {
        int[] sizes = {1, 1, 1, 2, 3, 7, 63, 33, 98, 99, 99, 1, 1};
        int[] rooms = {1, 2, 3, 3, 4, 8, 64, 65, 99, 100, 999, 512, 999};
        for (int i = 0; i < sizes.length; i++) {
            PromisedCounters counters = new PromisedCounters();
            for (int c = 1; c <= 3; c++) {
                counters.bounds(c, 0, 0);
            }
            counters.bounds(0, 0, rooms[i]);
            counters.promise(0, 0, sizes[i]);
            String what = "a share of " + sizes[i] + " in " + rooms[i];
            edges.due("27", VALUES, what, counters.digest(), Digests.byCalls(counters, ""));
        }
        PromisedCounters least = new PromisedCounters();
        for (int c = 0; c <= 3; c++) {
            least.bounds(c, -999, 999);
        }
        least.promise(0, 0, -1);
        edges.due("27", VALUES, "the least share", least.digest(), Digests.byCalls(least, ""));
    }

    private static void digestOfBuffer(Edges edges) {
        PromisedCounters counters = new PromisedCounters();
        StringBuilder buffer = new StringBuilder();
        for (int code : new int[] {33, 126, 48, 59}) {
            counters.append(code);
            buffer.append((char) code);
            edges.due("27", VALUES, "buffer", counters.digest(), Digests.byCalls(counters, buffer.toString()));
        }
        counters.clearBuffer();
        edges.due("27", VALUES, "a cleared buffer", counters.digest(), new PromisedCounters().digest());
    }

    private static long hashed(long before, long... values) {
        return Digests.hashed(before, values);
    }
}
