/** Promises 4 to 11: promise, transfer, settle, settlePart, cancel, renew, finish, pass. */
final class PromisesTest {
    public static void main(String[] args) {
        Runs runs = new Runs();
        promise(runs);
        reasons(runs);
        transfer(runs);
        settle(runs);
        settlePart(runs);
        cancel(runs);
        renew(runs);
        finish(runs);
        pass(runs);
        runs.end();
    }

    private static void promise(Runs runs) {
        runs.on("4: numbers in the order in which they came", """
                promise(0, 0, 60) = 0
                promise(5, 3, 99) = 1
                promise(1, 0, 40) = 2
                promiseOf(1, 0) = 5
                promiseOf(1, 1) = 3
                promiseOf(1, 2) = 99
                promiseOf(1, 3) = -1
                promiseOf(1, 4) = 10
                count(3) = 3
                count(9) = 3
                counter(0, 0) = 0
                undo() = 2
                count(3) = 2
                count(1) = 2
                """);
        runs.on("4: wrong inputs", """
                promise(-1, 0, 1) throws IndexOutOfBoundsException
                promise(6, 0, 1) throws IndexOutOfBoundsException
                promise(0, -1, 1) throws IndexOutOfBoundsException
                promise(0, 4, 1) throws IndexOutOfBoundsException
                promise(0, 4, 0) throws IndexOutOfBoundsException
                promise(0, 0, 0) throws IllegalArgumentException
                promise(0, 0, 100) throws IllegalArgumentException
                promise(0, 0, -100) throws IllegalArgumentException
                promise(0, 0, -2147483648) throws IllegalArgumentException
                promise(0, 0, -1) throws IllegalStateException
                count(9) = 0
                """);
        runs.on("4: it holds until the time plus setting 1, as that was then", """
                pass(3) = 0
                promise(0, 0, 1) = 0
                promiseOf(0, 4) = 13
                set(1, 99) = 10
                promise(0, 0, 1) = 1
                promiseOf(0, 4) = 13
                promiseOf(1, 4) = 102
                """);
    }

    private static void reasons(Runs runs) {
        runs.on("4: refused at the bounds, with the low and the high", """
                bounds(0, -30, 100) = 100
                promise(0, 0, -31) throws IllegalStateException
                promise(0, 0, -30) = 0
                promise(0, 0, -1) throws IllegalStateException
                promise(0, 0, 60) = 1
                promise(0, 0, -1) throws IllegalStateException
                promise(0, 0, 41) throws IllegalStateException
                promise(0, 0, 40) = 2
                promise(0, 0, 1) throws IllegalStateException
                settle(0) = -30
                promise(0, 0, 31) throws IllegalStateException
                promise(0, 0, 30) = 2
                promise(0, 0, 1) throws IllegalStateException
                """);
        runs.on("4: refused by the number of an owner", """
                set(0, 2) = 6
                promise(3, 0, 1) = 0
                promise(3, 1, 1) = 1
                promise(3, 2, 1) throws IllegalStateException
                transfer(3, 2, 1, 1) throws IllegalStateException
                promise(2, 2, 1) = 2
                cancel(0) = 2
                promise(3, 2, 1) = 2
                """);
        runs.on("4: refused by the number of promises", """
                set(0, 16) = 6
                type 0+1;0+1;0+1;0+1;0+1;0+1;0+1;0+1;0+1;0+1;0+1;0+1;0+1;0+1;0+1
                promiseAll() = 15
                promise(5, 3, 1) = 15
                promise(4, 2, 1) throws IllegalStateException
                whyNot(4, 2, 1) = 1
                cancel(7) = 15
                promise(4, 2, 1) = 15
                """);
    }

    private static void transfer(Runs runs) {
        runs.on("5: it holds room below one counter and above the other", """
                bounds(1, -10, 100) = 100
                bounds(2, 0, 7) = 100
                transfer(4, 1, 2, 5) = 0
                promiseOf(0, 0) = 4
                promiseOf(0, 1) = 1
                promiseOf(0, 2) = -5
                promiseOf(0, 3) = 2
                counter(1, 3) = -5
                counter(1, 4) = 0
                counter(2, 3) = 0
                counter(2, 4) = 5
                transfer(4, 1, 2, 3) throws IllegalStateException
                transfer(4, 1, 3, 6) throws IllegalStateException
                transfer(4, 1, 3, 5) = 1
                transfer(4, 1, 0, 1) throws IllegalStateException
                count(3) = 2
                count(9) = 4
                undo() = 3
                count(1) = 1
                """);
        runs.on("5: the sizes to both ends", """
                bounds(0, -999, 999) = 100
                transfer(0, 0, 1, 99) = 0
                transfer(0, 0, 2, 1) = 1
                transfer(0, 0, 1, 1) = 2
                transfer(0, 0, 1, 1) throws IllegalStateException
                """);
        runs.on("5: wrong inputs", """
                transfer(6, 0, 1, 1) throws IndexOutOfBoundsException
                transfer(-1, 0, 1, 1) throws IndexOutOfBoundsException
                transfer(0, 4, 1, 1) throws IndexOutOfBoundsException
                transfer(0, -1, 1, 1) throws IndexOutOfBoundsException
                transfer(0, 0, 4, 1) throws IndexOutOfBoundsException
                transfer(0, 0, -1, 1) throws IndexOutOfBoundsException
                transfer(6, 0, 0, 0) throws IndexOutOfBoundsException
                transfer(0, 4, 4, 0) throws IndexOutOfBoundsException
                transfer(0, 0, 0, 1) throws IllegalArgumentException
                transfer(0, 0, 1, 0) throws IllegalArgumentException
                transfer(0, 0, 1, 100) throws IllegalArgumentException
                transfer(0, 0, 1, -2147483648) throws IllegalArgumentException
                transfer(0, 0, 1, 1) throws IllegalStateException
                count(9) = 0
                """);
    }

    private static void settle(Runs runs) {
        runs.on("6: in any order; those behind move up", """
                promise(0, 0, 60) = 0
                promise(1, 0, 40) = 1
                promise(2, 3, 7) = 2
                settle(1) = 40
                count(1) = 2
                promiseOf(1, 0) = 2
                promiseOf(1, 1) = 3
                promiseOf(1, 2) = 7
                settle(1) = 7
                settle(0) = 100
                owner(1, 1) = 1
                count(4) = 3
                count(9) = 6
                settle(0) throws IndexOutOfBoundsException
                undo() = 5
                counter(0, 0) = 40
                count(4) = 2
                """);
        runs.on("6: a transfer changes both, the answer is the one from which it goes", """
                bounds(0, -50, 50) = 100
                transfer(0, 0, 2, 30) = 0
                settle(0) = -30
                counter(2, 0) = 30
                count(7) = 0
                settle(-1) throws IndexOutOfBoundsException
                settle(16) throws IndexOutOfBoundsException
                settle(-2147483648) throws IndexOutOfBoundsException
                count(9) = 3
                """);
    }

    private static void settlePart(Runs runs) {
        runs.on("7: a part is added, it goes on with the rest", """
                promise(0, 0, 10) = 0
                settlePart(0, 9) = 1
                counter(0, 0) = 9
                counter(0, 4) = 10
                promiseOf(0, 2) = 1
                promiseOf(0, 4) = 10
                count(4) = 0
                owner(0, 1) = 0
                settlePart(0, 1) throws IllegalArgumentException
                count(9) = 2
                undo() = 1
                counter(0, 0) = 0
                promiseOf(0, 2) = 10
                """);
        runs.on("7: below 0, and a transfer on both sides", """
                bounds(1, -50, 50) = 100
                promise(0, 1, -10) = 0
                transfer(0, 1, 3, 20) = 1
                settlePart(0, 3) = -7
                counter(1, 0) = -3
                settlePart(1, 5) = -15
                counter(1, 0) = -8
                counter(3, 0) = 5
                counter(1, 3) = -30
                counter(3, 4) = 20
                settle(1) = -23
                counter(3, 0) = 20
                count(4) = 1
                """);
        runs.on("7: wrong inputs", """
                promise(0, 0, 5) = 0
                promise(0, 0, 1) = 1
                settlePart(2, 0) throws IndexOutOfBoundsException
                settlePart(-1, 1) throws IndexOutOfBoundsException
                settlePart(0, 0) throws IllegalArgumentException
                settlePart(0, 5) throws IllegalArgumentException
                settlePart(0, -2147483648) throws IllegalArgumentException
                settlePart(1, 1) throws IllegalArgumentException
                count(9) = 2
                settlePart(0, 1) = 4
                settlePart(0, 3) = 1
                """);
    }

    private static void cancel(Runs runs) {
        runs.on("8: nothing is added", """
                promise(0, 0, 60) = 0
                promise(1, 1, 40) = 1
                promise(1, 2, 30) = 2
                cancel(1) = 2
                promiseOf(1, 1) = 2
                counter(1, 0) = 0
                counter(1, 4) = 0
                owner(1, 2) = 1
                count(5) = 1
                count(9) = 4
                cancel(2) throws IndexOutOfBoundsException
                cancel(-1) throws IndexOutOfBoundsException
                undo() = 3
                promiseOf(1, 1) = 1
                count(5) = 0
                cancel(0) = 2
                cancel(0) = 1
                cancel(0) = 0
                cancel(0) throws IndexOutOfBoundsException
                """);
        runs.on("8: those behind are the same but for their numbers", """
                bounds(3, -50, 50) = 100
                promise(0, 0, 60) = 0
                promise(1, 1, 40) = 1
                pass(3) = 0
                transfer(2, 3, 1, 30) = 2
                cancel(0) = 2
                promiseOf(0, 0) = 1
                promiseOf(0, 1) = 1
                promiseOf(0, 2) = 40
                promiseOf(0, 3) = -1
                promiseOf(0, 4) = 10
                promiseOf(1, 0) = 2
                promiseOf(1, 1) = 3
                promiseOf(1, 2) = -30
                promiseOf(1, 3) = 1
                promiseOf(1, 4) = 13
                """);
    }

    private static void renew(Runs runs) {
        runs.on("9: the time plus setting 1, longer, as long and shorter", """
                promise(0, 0, 1) = 0
                promise(0, 0, 2) = 1
                renew(0) = 0
                count(9) = 3
                pass(4) = 0
                renew(0) = 4
                promiseOf(0, 4) = 14
                promiseOf(1, 4) = 10
                set(1, 1) = 10
                renew(0) = -9
                promiseOf(0, 4) = 5
                pass(1) = 1
                promiseOf(0, 2) = 2
                undo() = 5
                undo() = 4
                promiseOf(0, 4) = 14
                renew(2) throws IndexOutOfBoundsException
                renew(-1) throws IndexOutOfBoundsException
                """);
    }

    private static void finish(Runs runs) {
        String promised = """
                bounds(0, -50, 50) = 100
                promise(2, 0, 5) = 0
                promise(1, 0, 3) = 1
                transfer(2, 0, 1, 20) = 2
                promise(2, 3, 7) = 3
                """;
        runs.on("10: settled", promised + """
                finish(2, true) = 3
                counter(0, 0) = -15
                counter(1, 0) = 20
                counter(3, 0) = 7
                count(1) = 1
                promiseOf(0, 0) = 1
                owner(2, 1) = 3
                owner(2, 2) = 0
                count(9) = 6
                undo() = 5
                count(1) = 4
                counter(3, 0) = 0
                promiseOf(2, 3) = 1
                """);
        runs.on("10: cancelled", promised + """
                finish(2, false) = 3
                count(7) = 0
                counter(0, 3) = 0
                counter(0, 4) = 3
                owner(2, 1) = 0
                owner(2, 2) = 3
                count(5) = 3
                """);
        runs.on("10: none is a call too; wrong inputs", """
                finish(5, false) = 0
                count(9) = 1
                finish(6, true) throws IndexOutOfBoundsException
                finish(-1, false) throws IndexOutOfBoundsException
                """);
    }

    private static void pass(Runs runs) {
        runs.on("11: promises lapse at the time until which they hold", """
                promise(0, 0, 5) = 0
                set(1, 12) = 10
                promise(1, 1, 5) = 1
                promise(0, 2, 5) = 2
                renew(0) = 2
                set(1, 3) = 12
                promise(1, 3, 5) = 3
                pass(2) = 0
                pass(1) = 1
                count(1) = 3
                pass(8) = 0
                count(9) = 6
                pass(1) = 3
                count(0) = 12
                count(6) = 4
                owner(1, 3) = 2
                count(7) = 0
                counter(0, 4) = 0
                undo() = 5
                count(0) = 11
                count(1) = 3
                """);
        runs.on("11: those that lapse stand between others", """
                promise(0, 0, 1) = 0
                set(1, 5) = 10
                promise(1, 0, 2) = 1
                promise(2, 0, 3) = 2
                set(1, 9) = 5
                promise(3, 0, 4) = 3
                pass(99) = 4
                count(1) = 0
                undo() = 5
                pass(5) = 2
                promiseOf(0, 0) = 0
                promiseOf(1, 0) = 3
                count(0) = 5
                pass(4) = 1
                promiseOf(0, 0) = 0
                pass(1) = 1
                """);
        runs.on("11: wrong inputs", """
                pass(0) throws IllegalArgumentException
                pass(-1) throws IllegalArgumentException
                pass(100) throws IllegalArgumentException
                pass(2147483647) throws IllegalArgumentException
                count(9) = 0
                """);
        runs.on("11: the time is at most 9999", "pass(99) = 0\n".repeat(101) + """
                count(0) = 9999
                pass(1) throws IllegalStateException
                pass(100) throws IllegalArgumentException
                undo() = 5
                pass(98) = 0
                promise(0, 0, 1) = 0
                promiseOf(0, 4) = 10008
                ifPassed(10, 0) = 1
                pass(2) throws IllegalStateException
                pass(1) = 0
                """);
    }
}
