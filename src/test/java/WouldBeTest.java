/** Promises 22 to 27: whyNot, canBe, mostFor, ifPassed, heldShare, digest. */
final class WouldBeTest {
    public static void main(String[] args) {
        Runs runs = new Runs();
        whyNot(runs);
        canBe(runs);
        mostFor(runs);
        ifPassed(runs);
        heldShare(runs);
        digestOfNew(runs);
        digestOfUsed(runs);
        digestByCalls(runs);
        digestOfShares(runs);
        runs.end();
    }

    private static void whyNot(Runs runs) {
        runs.on("22: each reason, and the first of several", """
                whyNot(0, 0, 99) = 0
                whyNot(0, 0, -1) = 3
                bounds(0, 0, 98) = 100
                whyNot(0, 0, 99) = 4
                whyNot(0, 0, 98) = 0
                set(0, 1) = 6
                promise(0, 1, 1) = 0
                whyNot(0, 0, 98) = 2
                whyNot(0, 0, 99) = 2
                whyNot(0, 0, -1) = 2
                whyNot(1, 0, -1) = 3
                set(0, 16) = 1
                type 2+1;2+1;2+1;2+1;2+1;2+1;2+1;2+1;2+1;2+1;2+1;2+1;2+1;2+1;2+1
                promiseAll() = 15
                whyNot(0, 0, -1) = 1
                whyNot(1, 0, 1) = 1
                set(0, 1) = 16
                whyNot(0, 0, 99) = 1
                """);
        runs.on("22: wrong inputs", """
                whyNot(-1, 0, 1) throws IndexOutOfBoundsException
                whyNot(6, 0, 1) throws IndexOutOfBoundsException
                whyNot(0, -1, 1) throws IndexOutOfBoundsException
                whyNot(0, 4, 0) throws IndexOutOfBoundsException
                whyNot(0, 0, 0) throws IllegalArgumentException
                whyNot(0, 0, 100) throws IllegalArgumentException
                whyNot(0, 0, -100) throws IllegalArgumentException
                """);
    }

    private static void canBe(Runs runs) {
        runs.on("23: the fewest promises", """
                canBe(0, 0) = 0
                canBe(0, 1) = -1
                bounds(0, -100, 100) = 100
                promise(0, 0, 2) = 0
                promise(0, 0, 3) = 1
                promise(0, 0, 5) = 2
                promise(0, 0, -5) = 3
                transfer(0, 0, 1, 1) = 4
                canBe(0, 0) = 0
                canBe(0, 5) = 1
                canBe(0, 10) = 3
                canBe(0, 9) = 4
                canBe(0, 4) = 2
                canBe(0, 1) = 2
                canBe(0, -6) = 2
                canBe(0, -7) = -1
                canBe(0, 11) = -1
                canBe(1, 1) = 1
                canBe(1, 0) = 0
                canBe(0, 6) = 3
                """);
        runs.on("23: settled ones are in the value, parts too", """
                promise(0, 0, 10) = 0
                settlePart(0, 4) = 6
                canBe(0, 4) = 0
                canBe(0, 10) = 1
                canBe(0, 6) = -1
                canBe(0, 0) = -1
                settle(0) = 10
                canBe(0, 10) = 0
                canBe(0, 4) = -1
                """);
        runs.on("23: any value, and wrong inputs", """
                promise(0, 0, 1) = 0
                canBe(0, 2147483647) = -1
                canBe(0, -2147483648) = -1
                canBe(-1, 0) throws IndexOutOfBoundsException
                canBe(4, 0) throws IndexOutOfBoundsException
                """);
    }

    private static void mostFor(Runs runs) {
        runs.on("24: at most 99, and at most the room", """
                mostFor(0, 0, true) = 99
                mostFor(0, 0, false) = 0
                bounds(0, -99, 999) = 100
                mostFor(0, 0, false) = 99
                bounds(0, -98, 999) = 1098
                mostFor(0, 0, false) = 98
                promise(0, 1, 60) = 0
                mostFor(1, 1, true) = 40
                promise(0, 1, 40) = 1
                mostFor(1, 1, true) = 0
                promise(0, 0, -90) = 2
                mostFor(5, 0, false) = 8
                """);
        runs.on("24: 0 if the number is a reason", """
                set(0, 2) = 6
                promise(0, 0, 1) = 0
                promise(0, 0, 1) = 1
                mostFor(0, 1, true) = 0
                mostFor(1, 1, true) = 99
                set(0, 16) = 2
                type 2+1;2+1;2+1;2+1;2+1;2+1;2+1;2+1;2+1;2+1;2+1;2+1;2+1;2+1
                promiseAll() = 14
                mostFor(1, 1, true) = 0
                mostFor(6, 0, true) throws IndexOutOfBoundsException
                mostFor(-1, 0, true) throws IndexOutOfBoundsException
                mostFor(0, 4, true) throws IndexOutOfBoundsException
                mostFor(0, -1, false) throws IndexOutOfBoundsException
                """);
    }

    private static void ifPassed(Runs runs) {
        runs.on("25: how many lapse, and the room below then", """
                bounds(0, -100, 100) = 100
                bounds(3, -50, 100) = 100
                promise(0, 0, -30) = 0
                pass(2) = 0
                promise(0, 0, -20) = 1
                transfer(0, 3, 1, 7) = 2
                promise(0, 0, 10) = 3
                ifPassed(0, 0) = 0
                ifPassed(0, 1) = 50
                ifPassed(7, 0) = 0
                ifPassed(7, 1) = 50
                ifPassed(8, 0) = 1
                ifPassed(8, 1) = 80
                ifPassed(9, 1) = 80
                ifPassed(9, 4) = 43
                ifPassed(10, 0) = 4
                ifPassed(10, 1) = 100
                ifPassed(10, 2) = 0
                ifPassed(10, 4) = 50
                ifPassed(200, 0) = 4
                """);
        runs.on("25: wrong inputs", """
                ifPassed(-1, 0) throws IllegalArgumentException
                ifPassed(201, 0) throws IllegalArgumentException
                ifPassed(0, -1) throws IllegalArgumentException
                ifPassed(0, 5) throws IllegalArgumentException
                ifPassed(200, 4) = 0
                """);
        runs.on("25: the limit of 9999 does not matter", "pass(99) = 0\n".repeat(101) + """
                promise(0, 0, 1) = 0
                ifPassed(9, 0) = 0
                ifPassed(10, 0) = 1
                ifPassed(200, 1) = 0
                """);
    }

    private static void heldShare(Runs runs) {
        runs.on("26: high less low through greatest less least", """
                heldShare() = 0.0
                promise(0, 0, 10) = 0
                heldShare() = 0.025
                bounds(1, -50, 50) = 100
                promise(0, 1, -50) = 1
                transfer(0, 0, 1, 5) throws IllegalStateException
                heldShare() = 0.15
                settle(0) = 10
                heldShare() = 0.125
                transfer(0, 0, 1, 5) = 1
                heldShare() = 0.15
                """);
        runs.on("26: no room at all", """
                bounds(0, 0, 0) = 100
                bounds(1, 0, 0) = 100
                bounds(2, 0, 0) = 100
                heldShare() = 0.0
                bounds(3, 0, 0) = 100
                heldShare() = 0.0
                """);
        runs.on("26: all the room", """
                bounds(0, 0, 3) = 100
                bounds(1, 0, 0) = 100
                bounds(2, 0, 0) = 100
                bounds(3, 0, 0) = 100
                promise(0, 0, 1) = 0
                heldShare() = 0.3333333333333333
                promise(0, 0, 2) = 1
                heldShare() = 1.0
                """);
    }

    private static void digestOfNew(Runs runs) {
        long[] counter = {0, 0, 100, 0, 0, 0, 0, 0, 100, 1, -1, 99, 0};
        long[] owner = {0, 0, 0, 0, 0, 0};
        long hash = 2713L;
        hash = Digests.hashed(hash, 0, 0, 0, 0, 0, 0, 0, 0, -1, 0);
        hash = Digests.hashed(hash, 6, 10);
        for (int c = 0; c < 4; c++) {
            hash = Digests.hashed(hash, counter);
        }
        for (int o = 0; o < 6; o++) {
            hash = Digests.hashed(hash, owner);
        }
        hash = Digests.hashed(hash, 0, 0, 0, 0, 0);
        hash = Digests.hashed(hash, 0, 0);
        runs.due("27: the digest of a new object", new PromisedCounters().digest(), hash);
    }

    /** The time 6 with "0>" in the buffer, a promise of 5 until 10 and a transfer of 3 until 16. */
    private static void digestOfUsed(Runs runs) {
        PromisedCounters counters = new PromisedCounters();
        counters.bounds(1, -8, 92);
        counters.promise(2, 0, 5);
        counters.pass(6);
        counters.transfer(3, 1, 0, 3);
        counters.append('0');
        counters.append('>');
        long hash = 2713L;
        hash = Digests.hashed(hash, 6, 2, 1, 2, 0, 0, 0, 0, 10, 4);
        hash = Digests.hashed(hash, 6, 10);
        hash = Digests.hashed(hash, 0, 0, 100, 0, 8, 2, 8, 0, 92, 4, 1, 92, 0);
        hash = Digests.hashed(hash, 0, -8, 92, -3, 0, 1, -3, 5, 92, 2, -1, 92, 5);
        hash = Digests.hashed(hash, 0, 0, 100, 0, 0, 0, 0, 0, 100, 1, -1, 99, 0);
        hash = Digests.hashed(hash, 0, 0, 100, 0, 0, 0, 0, 0, 100, 1, -1, 99, 0);
        hash = Digests.hashed(hash, 2, 0, 5, -1, 10, 4);
        hash = Digests.hashed(hash, 3, 1, -3, 0, 16, 10);
        hash = Digests.hashed(hash, 0, 0, 0, 0, 0, 0);
        hash = Digests.hashed(hash, 0, 0, 0, 0, 0, 0);
        hash = Digests.hashed(hash, 1, 0, 0, 0, 5, 0);
        hash = Digests.hashed(hash, 1, 0, 0, 0, 3, 0);
        hash = Digests.hashed(hash, 0, 0, 0, 0, 0, 0);
        hash = Digests.hashed(hash, 0, 0, 0, 0, 0, 0);
        hash = Digests.hashed(hash, 1, 0, 5, 0, 0);
        hash = Digests.hashed(hash, Double.doubleToLongBits(11.0 / 400.0));
        hash = Digests.hashed(hash, 2, '0', '>');
        runs.due("27: the digest of a used object", counters.digest(), hash);
        runs.due("27: the same again", counters.digest(), hash);
    }

    /** States in which other arguments of the calls in the list would have other answers. */
    private static void digestByCalls(Runs runs) {
        for (int most = 5; most <= 12; most++) {
            for (int holds = 3; holds <= 7; holds++) {
                PromisedCounters counters = withShortOnes(most, holds);
                runs.due("27: the digest by calls", counters.digest(), Digests.byCalls(counters, ""));
            }
            PromisedCounters counters = withShortOnes(most, 7);
            counters.set(0, 5);
            counters.promise(3, 0, 5);
            counters.settle(5);
            runs.due("27: the digest by calls, an owner has too many", counters.digest(),
                    Digests.byCalls(counters, ""));
        }
    }

    /** Owner 0 has promises of 1 or -1 for counter 1, until 3 and each time until then. */
    private static PromisedCounters withShortOnes(int most, int until) {
        PromisedCounters counters = new PromisedCounters();
        counters.bounds(1, -3, most);
        counters.bounds(2, -3, most + 1);
        for (int holds = 3; holds <= until; holds++) {
            counters.set(1, holds);
            counters.promise(0, 1, -1 + holds % 2 * 2);
        }
        return counters;
    }

    /** Shares whose bits end at the point, 1.0 and halves of it, and ones that go on behind it. */
    private static void digestOfShares(Runs runs) {
        for (int most : new int[] {1, 2, 3, 4, 5, 7, 8, 16, 49, 64, 512, 998, 999}) {
            PromisedCounters counters = new PromisedCounters();
            for (int c = 1; c < 4; c++) {
                counters.bounds(c, 0, 0);
            }
            counters.promise(0, 0, 1);
            counters.bounds(0, 0, most);
            runs.due("27: the share with room " + most, counters.heldShare(), 1.0 / most);
            runs.due("27: the digest with room " + most, counters.digest(), Digests.byCalls(counters, ""));
        }
    }
}
