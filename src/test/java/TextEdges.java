import java.util.List;

/** The sentences of the terms on the input text, and those of promises 12 to 16. */
final class TextEdges {
    private static final String INPUT = "Input text";
    private static final String PARTS = "Changes as a text are one or more parts with \";\" between them, each a "
            + "counter, 0 to 3, then \"+\" or \"-\" and a number, 1 to 99, without a leading zero, or \">\" and "
            + "another counter, 0 to 3 (not the same digit), \":\" and such a number (a transfer of so many from the "
            + "one to the other), and perhaps \"o\" and an owner, 0 to 5 (0 without it).";
    private static final String FROM_LEFT = "The buffer is read from left to right; a character is a syntax error "
            + "if no changes as a text, of any length, begin with the characters before it and this character.";
    private static final String FIRST = "Returns the index of the first character that is a syntax error; the "
            + "length of the buffer if there is none.";
    private static final String UP_TO_FIRST = "Promises the changes in the buffer, one after the other, up to the "
            + "first one against which there is a reason, and clears the buffer.";
    private static final String INCOMPLETE =
            "Throws `IllegalArgumentException` if the buffer is not complete changes as a text";

    /** 60 characters, 15 parts. */
    private static final String LONGEST = "0+1;".repeat(14) + "1+10";

    static void run(Edges edges) {
        length(edges);
        parts(edges);
        syntaxErrors(edges);
        append(edges);
        clearBuffer(edges);
        firstError(edges);
        promiseAll(edges);
        incomplete(edges);
        undo(edges);
    }

    private static void length(Edges edges) {
        edges.of(INPUT, "The buffer has at most 60 characters.", "set(0, 16) = 6\ntype " + LONGEST + """

                append(49) throws IllegalStateException
                firstError() = 60
                promiseAll() = 15
                counter(1, 4) = 10
                append(48) = 1
                """);
    }

    /** Each part alone, and what it promises: its owner, its counter, its change, the other counter. */
    private static void parts(Edges edges) {
        isPart(edges, "0+1", 0, 0, 1, -1);
        isPart(edges, "3-1", 0, 3, -1, -1);
        isPart(edges, "1+9", 0, 1, 9, -1);
        isPart(edges, "2-10", 0, 2, -10, -1);
        isPart(edges, "3+99", 0, 3, 99, -1);
        isPart(edges, "0-99o0", 0, 0, -99, -1);
        isPart(edges, "1+20o5", 5, 1, 20, -1);
        isPart(edges, "2+5o3", 3, 2, 5, -1);
        isPart(edges, "0>3:1", 0, 0, -1, 3);
        isPart(edges, "3>0:99", 0, 3, -99, 0);
        isPart(edges, "1>2:90o1", 1, 1, -90, 2);
        isPart(edges, "2>1:9o5", 5, 2, -9, 1);
        for (String none : new String[] {"4+1", "9-1", "+1", "a+1", "0*1", "0=1", "00+1", "0", "0+", "0-", "0+0",
                "0-0", "0+01", "0-09", "0+100", "0-999", "0++1", "0+-1", "0+1+1", "0>", "0>1", "0>1:", "0>0:1", "3>3:1",
                "0>4:1", "0>:1", "0>11", "0>1+1", "0>1:0", "0>1:01", "0>1:100", "0>1:+1", "0>1>2:1", "0+1:1", "0+1o",
                "0+1o6", "0+1o9", "0+1o00", "0+1o1o1", "0+1o-1", "0+1O1", "0+o1", "o1", "0o1+1", "0>1o1:1", "0>1:1o",
                "0>1:1o6", ";", ";0+1", "0+1;", "0+1;;1+1", "0+1,1+1", "0+1;1", "0+1;1+", "0+1;4+1", "0+1o1;",
                "0+1o1;2>2:1"}) {
            edges.of(INPUT, PARTS, "type " + none + "\npromiseAll() throws IllegalArgumentException\ncount(1) = 0");
        }
        edges.of(INPUT, PARTS, "promiseAll() throws IllegalArgumentException");
        edges.of(INPUT, PARTS, """
                type 0+1;1+12o3;2+9o5;3+10
                promiseAll() = 4
                promiseOf(0, 0) = 0
                promiseOf(1, 0) = 3
                promiseOf(1, 1) = 1
                promiseOf(1, 2) = 12
                promiseOf(2, 0) = 5
                promiseOf(2, 2) = 9
                promiseOf(3, 0) = 0
                promiseOf(3, 1) = 3
                promiseOf(3, 2) = 10
                """);
        edges.of(INPUT, PARTS, """
                bounds(1, -99, 99) = 100
                type 1>2:5o4;1-6;1>3:7;0+8
                promiseAll() = 4
                promiseOf(0, 3) = 2
                promiseOf(1, 0) = 0
                promiseOf(1, 2) = -6
                promiseOf(1, 3) = -1
                promiseOf(2, 0) = 0
                promiseOf(2, 3) = 3
                promiseOf(3, 2) = 8
                promiseOf(3, 3) = -1
                """);
    }

    private static void isPart(Edges edges, String part, int owner, int counter, int change, int other) {
        String wide = """
                bounds(0, -99, 99) = 100
                bounds(1, -99, 99) = 100
                bounds(2, -99, 99) = 100
                bounds(3, -99, 99) = 100
                """;
        edges.of(INPUT, PARTS, wide + "type " + part + "\nfirstError() = " + part.length() + "\npromiseAll() = 1"
                + "\npromiseOf(0, 0) = " + owner + "\npromiseOf(0, 1) = " + counter
                + "\npromiseOf(0, 2) = " + change + "\npromiseOf(0, 3) = " + other);
    }

    /** Behind each beginning, which is without an error, each character that the buffer takes. */
    private static void syntaxErrors(Edges edges) {
        String[] beginnings = {
            // a beginning, and the characters that may stand behind it
            "", "0123",
            "0", "+->",
            "3", "+->",
            "0+", "123456789",
            "2-", "123456789",
            "0>", "123",
            "1>", "023",
            "2>", "013",
            "3>", "012",
            "0>1", ":",
            "0>1:", "123456789",
            "0+1", "0123456789;o",
            "0-9", "0123456789;o",
            "0+10", ";o",
            "0-99", ";o",
            "3>2:1", "0123456789;o",
            "3>2:99", ";o",
            "0+1o", "012345",
            "0+99o", "012345",
            "0+1o0", ";",
            "0+12o5", ";",
            "1>0:1o", "012345",
            "1>0:12o5", ";",
            "0+1;", "0123",
            "0+1o3;", "0123",
            "2>3:4;", "0123",
            "0+1;3", "+->",
            "0+1;3>", "012",
            "0>1:5;2-", "123456789",
            "0+1;".repeat(14) + "0+1", "0123456789;o",
            "0+1;".repeat(14) + "0>2", ":",
            "0>1:9;" + "0+1o5;".repeat(8) + "0+1o", "012345",
        };
        for (int i = 0; i < beginnings.length; i += 2) {
            for (char sign = 33; sign <= 126; sign++) {
                boolean isError = beginnings[i + 1].indexOf(sign) < 0;
                int at = beginnings[i].length() + (isError ? 0 : 1);
                edges.of(INPUT, FROM_LEFT, "type " + beginnings[i] + sign + "\nfirstError() = " + at);
            }
        }
    }

    private static void append(Edges edges) {
        edges.of("12", List.of("Appends a character to the buffer.", "Returns the new length of the buffer."), """
                append(48) = 1
                append(43) = 2
                append(49) = 3
                firstError() = 3
                append(33) = 4
                firstError() = 3
                count(9) = 0
                clearBuffer() = 4
                append(126) = 1
                """);
        edges.of("12", "`code`: the character code, 33 to 126", """
                append(33) = 1
                append(126) = 2
                """);
        edges.outside("12", "Throws `IllegalArgumentException` if code is not 33 to 126", "append(48) = 1\n",
                "append(#)", Edges.ARGUMENT, 32, 127, 0, -1, 256 + 48, 65536 + 48, Integer.MIN_VALUE,
                Integer.MAX_VALUE);
        edges.of("12", "Throws `IllegalStateException` if the buffer has 60 characters", "type " + "~".repeat(59) + """

                append(126) = 60
                append(126) throws IllegalStateException
                append(33) throws IllegalStateException
                clearBuffer() = 60
                append(33) = 1
                """);
    }

    private static void clearBuffer(Edges edges) {
        edges.of("13", List.of("Clears the buffer.", "Returns the length that it had."), """
                clearBuffer() = 0
                append(120) = 1
                firstError() = 0
                clearBuffer() = 1
                firstError() = 0
                append(48) = 1
                firstError() = 1
                count(9) = 0
                """);
        edges.of("13", "Returns the length that it had.", "type " + LONGEST + """

                clearBuffer() = 60
                clearBuffer() = 0
                promiseAll() throws IllegalArgumentException
                """);
    }

    private static void firstError(Edges edges) {
        edges.of("14", List.of("Finds the first syntax error of the buffer.", FIRST), """
                type 0+1x2y
                firstError() = 3
                clearBuffer() = 6
                type x
                firstError() = 0
                clearBuffer() = 1
                type 0+1;1>1:5
                firstError() = 6
                firstError() = 6
                append(49) = 10
                firstError() = 6
                """);
        edges.of("14", FIRST, """
                firstError() = 0
                append(48) = 1
                firstError() = 1
                append(43) = 2
                firstError() = 2
                append(53) = 3
                firstError() = 3
                append(59) = 4
                firstError() = 4
                """);
        edges.of("14", FIRST, "type " + LONGEST + "\nfirstError() = 60");
        edges.of("14", FIRST, "type " + "0+1;".repeat(15) + "\nfirstError() = 60");
        edges.of("14", FIRST, "type " + "0+1;".repeat(14) + "1+1:\nfirstError() = 59");
        edges.of("14", FIRST, "type " + "!".repeat(60) + "\nfirstError() = 0");
    }

    private static void promiseAll(Edges edges) {
        edges.of("15", UP_TO_FIRST, """
                type 1+60;1+41;1+40
                promiseAll() = 1
                counter(1, 4) = 60
                count(1) = 1
                count(3) = 1
                clearBuffer() = 0
                """);
        edges.of("15", UP_TO_FIRST, """
                type 0+50o1;0+50o2;0>1:1;2+1
                promiseAll() = 2
                promiseOf(0, 0) = 1
                promiseOf(1, 0) = 2
                count(1) = 2
                clearBuffer() = 0
                """);
        edges.of("15", UP_TO_FIRST, """
                set(0, 2) = 6
                type 0+1;0+1;0+1;0+1o1
                promiseAll() = 2
                owner(0, 0) = 2
                owner(1, 0) = 0
                """);
        edges.of("15", UP_TO_FIRST, TermEdges.FIFTEEN + """
                type 0+1o1;0+1o2
                promiseAll() = 1
                promiseOf(15, 0) = 1
                clearBuffer() = 0
                """);
        edges.of("15", UP_TO_FIRST, """
                bounds(1, -7, 100) = 100
                bounds(2, 0, 9) = 100
                type 1>2:5;1>2:5;1>0:2
                promiseAll() = 1
                type 1>0:3
                promiseAll() = 0
                type 1>0:2
                promiseAll() = 1
                """);
        edges.of("15", "Undoable, as one call, also if none is promised.", """
                type 0+1;1+2;2+3
                promiseAll() = 3
                count(9) = 1
                undo() = 0
                count(1) = 0
                count(3) = 0
                type 0-1
                promiseAll() = 0
                count(9) = 1
                undo() = 0
                undo() throws IllegalStateException
                """);
        edges.of("15", "Returns how many are promised.", """
                type 0-1;1+1
                promiseAll() = 0
                type 1+1
                promiseAll() = 1
                type 1+1;2>1:1;3+1
                promiseAll() = 1
                type 1+1;2+1;3+1
                promiseAll() = 3
                """);
        edges.of("15", "Returns how many are promised.", "set(0, 16) = 6\ntype " + LONGEST + "\npromiseAll() = 15");
    }

    private static void incomplete(Edges edges) {
        edges.of("15", INCOMPLETE, "promiseAll() throws IllegalArgumentException");
        for (String text : new String[] {"0", "0+", "0>", "0>1", "0>1:", "0+1o", "0+1;", "0+1;1", "0+1;1+", "0+1o1;",
                "x", "0+1x", "0+100", "4+1", "1+1;0>0:1", "0+1;".repeat(15)}) {
            edges.of("15", INCOMPLETE, "type " + text + """

                    promiseAll() throws IllegalArgumentException
                    count(1) = 0
                    count(9) = 0
                    clearBuffer() =\s""" + text.length());
        }
    }

    private static void undo(Edges edges) {
        edges.of("16", "Restores the latest saved state, and drops it.", """
                promise(0, 0, 1) = 0
                promise(1, 1, 2) = 1
                settle(0) = 1
                undo() = 2
                counter(0, 0) = 0
                count(1) = 2
                promiseOf(0, 2) = 1
                promiseOf(1, 2) = 2
                undo() = 1
                count(1) = 1
                undo() = 0
                count(1) = 0
                """);
        edges.of("16", "Returns how many saved states are left.", """
                set(1, 1) = 10
                set(1, 2) = 1
                set(1, 3) = 2
                set(1, 4) = 3
                set(1, 5) = 4
                set(1, 6) = 5
                set(1, 7) = 6
                undo() = 5
                undo() = 4
                count(9) = 4
                """);
        edges.of("16", "Throws `IllegalStateException` if there is none", """
                undo() throws IllegalStateException
                append(48) = 1
                undo() throws IllegalStateException
                set(0, 1) = 6
                undo() = 0
                undo() throws IllegalStateException
                setting(0) = 6
                """);
    }
}
