/** Rows that many runs begin with, and rows for each of several values. */
final class Rows {
    static final String INDEX = " throws.IndexOutOfBoundsException";
    static final String ARGUMENT = " throws.IllegalArgumentException";
    static final String STATE = " throws.IllegalStateException";
    static final String UNSUPPORTED = " throws.UnsupportedOperationException";
    static final String ELEMENT = " throws.NoSuchElementException";

    /** 0(1(3(4,5)),2): ranks 9 6 5 4 2 3, loyalties 100 60 30 90 50 10. */
    static final String FLEET = """
            appoint(0, 6, 60)
            appoint(0, 5, 30)
            appoint(1, 4, 90)
            appoint(3, 2, 50)
            appoint(3, 3, 10)
            """;

    /** The fleet without officer 2: 0(1(3(4,5))). */
    static final String GAP = FLEET + "dismiss(2)\n";

    /** 0(1(2(3)),4): ranks 9 8 7 6 8, loyalties 100 50 40 30 99. */
    static final String LINE = """
            appoint(0, 8, 50)
            appoint(1, 7, 40)
            appoint(2, 6, 30)
            appoint(0, 8, 99)
            """;

    /** 0(1(2(3(4(5(6(7(8)))))))): ranks 9 to 1, loyalties 100, 92, 93 and so on to 99. */
    static final String CHAIN = """
            appoint(0, 8, 92)
            appoint(1, 7, 93)
            appoint(2, 6, 94)
            appoint(3, 5, 95)
            appoint(4, 4, 96)
            appoint(5, 3, 97)
            appoint(6, 2, 98)
            appoint(7, 1, 99)
            """;

    /** The admiral and the 11 subordinates that there is room for, of the rank 5 and the loyalty 50. */
    static final String FULL = "11 x appoint(0, 5, 50)\n";

    /** The 20 flags that there is room for, aa to at, of the meanings 0 to 9 in turn. */
    static final String FULL_BOOK = twentyFlags();

    /** The line with something in each part of an object: orders, flags, input, output, undos, a saved state. */
    static final String BUSY = LINE + """
            save()
            issue(0, 3, 31)
            issue(1, 2, 100)
            issue(0, 4, 5)
            passHours(1)
            define('a', 'b', 3)
            define('q', 'z', 99)
            run(wait;wai) throws.IllegalArgumentException
            run(wait;fire 0) throws.UnsupportedOperationException
            writeCommand(1)
            type(wait;add 0 1 1)
            """;

    private Rows() {
    }

    /** The row once for each value, with the value in the place of each %. */
    static String each(String row, Object... values) {
        StringBuilder rows = new StringBuilder();
        for (Object value : values) {
            rows.append(row.replace("%", value.toString())).append('\n');
        }
        return rows.toString();
    }

    /** The row for each kind of index that no officer in the navy of GAP has, the dismissed one's included. */
    static String eachAbsent(String row) {
        return each(row, "MIN", -256, -1, 2, 6, 11, 12, 256, 65536, "MAX");
    }

    /** The row for each kind of character that is no letter of a flag. */
    static String eachNoLetter(String row) {
        return each(row, "'`'", "'{'", "'A'", "'Z'", "'0'", "' '", "#0", "#225", "#353", "#65535");
    }

    private static String twentyFlags() {
        StringBuilder rows = new StringBuilder();
        for (int i = 0; i < 20; i++) {
            rows.append("define('a', '").append((char) ('a' + i)).append("', ").append(i % 10).append(")\n");
        }
        return rows.toString();
    }
}
