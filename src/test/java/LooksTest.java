/** Promises 17 to 21: counter, promiseOf, owner, count, setting. */
final class LooksTest {
    public static void main(String[] args) {
        Runs runs = new Runs();
        counter(runs);
        unlikeValues(runs);
        promiseOf(runs);
        owner(runs);
        count(runs);
        setting(runs);
        runs.end();
    }

    private static void counter(Runs runs) {
        runs.on("17: each property", """
                bounds(1, -70, 90) = 100
                promise(0, 1, 8) = 0
                settle(0) = 8
                promise(0, 1, 10) = 0
                promise(1, 1, -20) = 1
                transfer(2, 1, 2, 30) = 2
                promise(3, 3, 5) = 3
                counter(1, 0) = 8
                counter(1, 1) = -70
                counter(1, 2) = 90
                counter(1, 3) = -42
                counter(1, 4) = 18
                counter(1, 5) = 3
                counter(1, 6) = -40
                counter(1, 7) = 28
                counter(1, 8) = 72
                counter(1, 9) = 7
                counter(2, 5) = 1
                counter(2, 6) = 30
                counter(2, 4) = 30
                counter(2, 3) = 0
                counter(2, 8) = 70
                counter(2, 9) = 2
                counter(0, 5) = 0
                counter(0, 6) = 0
                counter(0, 9) = 1
                """);
        runs.on("17: wrong inputs", """
                counter(-1, 0) throws IndexOutOfBoundsException
                counter(4, 0) throws IndexOutOfBoundsException
                counter(4, 10) throws IndexOutOfBoundsException
                counter(0, -1) throws IllegalArgumentException
                counter(0, 10) throws IllegalArgumentException
                """);
    }

    private static void unlikeValues(Runs runs) {
        runs.on("17: values that several settlements give count once", """
                promise(0, 0, 5) = 0
                promise(0, 0, 5) = 1
                counter(0, 9) = 3
                promise(0, 0, 10) = 2
                counter(0, 9) = 5
                bounds(0, -100, 100) = 100
                promise(0, 0, -10) = 3
                counter(0, 9) = 7
                promise(0, 0, -1) = 4
                counter(0, 9) = 14
                """);
        runs.on("17: 15 promises of unlike sizes", """
                set(0, 16) = 6
                bounds(0, -999, 999) = 100
                type 0+1;0+2;0+4;0+8;0+16;0+32;0+64;0-1;0-2;0-4;0-8;0-16;0-32
                promiseAll() = 13
                counter(0, 9) = 191
                promise(0, 0, -64) = 13
                counter(0, 9) = 255
                counter(0, 3) = -127
                counter(0, 4) = 127
                """);
        runs.on("17: as far apart as can be", """
                set(0, 16) = 6
                bounds(0, -999, 999) = 100
                bounds(1, -999, 999) = 100
                type 0+99;0>1:99;0+99;0>1:99;0+99;0>1:99;0+99;0>1:99
                promiseAll() = 8
                type 0+99;1>0:99;0-99;0>1:98;0-99;1>0:99;0+99;0>1:99
                promiseAll() = 8
                counter(0, 9) = 32
                counter(0, 4) = 792
                counter(0, 3) = -791
                canBe(0, -791) = 8
                canBe(0, 792) = 8
                canBe(0, 1) = 2
                canBe(0, 2) = -1
                counter(1, 9) = 16
                cancel(11) = 15
                promise(5, 0, -99) = 15
                counter(0, 9) = 17
                canBe(0, -792) = 8
                canBe(0, 792) = 8
                """);
    }

    private static void promiseOf(Runs runs) {
        runs.on("18: each property", """
                bounds(3, -9, 9) = 100
                promise(5, 2, 33) = 0
                pass(4) = 0
                transfer(4, 3, 1, 9) = 1
                settlePart(0, 11) = 22
                promiseOf(0, 0) = 5
                promiseOf(0, 1) = 2
                promiseOf(0, 2) = 22
                promiseOf(0, 3) = -1
                promiseOf(0, 4) = 10
                promiseOf(0, 5) = 6
                promiseOf(1, 0) = 4
                promiseOf(1, 1) = 3
                promiseOf(1, 2) = -9
                promiseOf(1, 3) = 1
                promiseOf(1, 4) = 14
                promiseOf(1, 5) = 10
                """);
        runs.on("18: wrong inputs", """
                promiseOf(0, 0) throws IndexOutOfBoundsException
                promiseOf(0, 6) throws IndexOutOfBoundsException
                promise(0, 0, 1) = 0
                promiseOf(-1, 0) throws IndexOutOfBoundsException
                promiseOf(1, 0) throws IndexOutOfBoundsException
                promiseOf(0, -1) throws IllegalArgumentException
                promiseOf(0, 6) throws IllegalArgumentException
                """);
    }

    private static void owner(Runs runs) {
        runs.on("19: each property", """
                bounds(0, -99, 99) = 100
                promise(2, 0, 5) = 0
                promise(2, 0, -6) = 1
                transfer(2, 0, 1, 7) = 2
                promise(3, 1, 8) = 3
                owner(2, 0) = 3
                owner(2, 4) = 18
                settlePart(1, 2) = -4
                owner(2, 4) = 16
                owner(2, 1) = 0
                settle(0) = 3
                cancel(0) = 2
                owner(2, 0) = 1
                owner(2, 1) = 1
                owner(2, 2) = 1
                owner(2, 3) = 0
                owner(2, 4) = 7
                pass(10) = 2
                owner(2, 3) = 1
                owner(3, 3) = 1
                owner(3, 0) = 0
                owner(3, 4) = 0
                owner(0, 0) = 0
                """);
        runs.on("19: wrong inputs", """
                owner(-1, 0) throws IndexOutOfBoundsException
                owner(6, 0) throws IndexOutOfBoundsException
                owner(6, 5) throws IndexOutOfBoundsException
                owner(5, 0) = 0
                owner(0, -1) throws IllegalArgumentException
                owner(0, 5) throws IllegalArgumentException
                """);
    }

    private static void count(Runs runs) {
        runs.on("20: each number", """
                bounds(0, -99, 99) = 100
                promise(0, 0, 5) = 0
                pass(2) = 0
                transfer(1, 0, 1, 7) = 1
                promise(2, 2, 8) = 2
                promise(2, 3, 9) = 3
                count(0) = 2
                count(1) = 4
                count(2) = 1
                count(3) = 4
                count(7) = 0
                count(8) = 10
                count(9) = 6
                settlePart(1, 3) = -4
                count(7) = 0
                settle(2) = 8
                cancel(2) = 2
                renew(0) = 2
                count(8) = 12
                set(1, 5) = 10
                renew(1) = -5
                count(8) = 7
                pass(5) = 1
                count(2) = 0
                count(3) = 4
                count(4) = 1
                count(5) = 1
                count(6) = 1
                count(7) = 8
                pass(5) = 1
                count(8) = -1
                count(6) = 2
                transfer(0, 0, 1, 1) = 0
                count(2) = 1
                transfer(0, 0, 1, 1) = 1
                count(2) = 2
                count(-1) throws IllegalArgumentException
                count(10) throws IllegalArgumentException
                """);
    }

    private static void setting(Runs runs) {
        runs.on("21: both settings", """
                setting(0) = 6
                setting(1) = 10
                set(0, 7) = 6
                set(1, 8) = 10
                setting(0) = 7
                setting(1) = 8
                setting(-1) throws IndexOutOfBoundsException
                setting(2) throws IndexOutOfBoundsException
                """);
    }
}
