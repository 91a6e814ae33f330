/** Promises 26 to 29: what is foretold of orders on a way. */
public final class PredictionTests {
    private PredictionTests() {
    }

    private static void hoursFor() {
        Run.sentence("26", "Throws IndexOutOfBoundsException if there is no such officer in the navy, for either",
                Rows.GAP + Rows.eachAbsent("hoursFor(%, 1)" + Rows.INDEX)
                + Rows.eachAbsent("hoursFor(0, %)" + Rows.INDEX)
                + Rows.eachAbsent("hoursFor(%, %)" + Rows.INDEX));
        Run.sentence("26", "Throws IllegalStateException if the second officer is not below the first one",
                noWay("hoursFor(%)"));
        Run.sentence("26", "Returns the number of hours. (from 1 to 8)", Rows.CHAIN + """
                hoursFor(0, 1) = 1
                hoursFor(7, 8) = 1
                hoursFor(6, 8) = 2
                hoursFor(0, 7) = 7
                hoursFor(0, 8) = 8
                issue(0, 8, 0)
                passHours(7) = 0
                passHours(1) = 1
                """);
        Run.sentence("26", "Returns the number of hours. (up to the officer 11)", Rows.FULL + """
                hoursFor(0, 11) = 1
                hoursFor(0, 12) throws.IndexOutOfBoundsException
                hoursFor(11, 0) throws.IllegalStateException
                """);
    }

    /** The row for pairs of officers where the second is the same, above, beside or in another command. */
    private static String noWay(String row) {
        return Rows.FLEET + Rows.each(row + Rows.STATE, "0, 0", "3, 3", "5, 5", "3, 1", "1, 0", "5, 0", "1, 2",
                "2, 1", "4, 5", "2, 4");
    }

    private static void greatestSeverity(String promise, String method) {
        Run.sentence(promise, "Throws IndexOutOfBoundsException if there is no such officer in the navy, for either",
                Rows.GAP + Rows.eachAbsent(method + "(%, 1)" + Rows.INDEX)
                + Rows.eachAbsent(method + "(0, %)" + Rows.INDEX)
                + Rows.eachAbsent(method + "(%, %)" + Rows.INDEX));
        Run.sentence(promise, "Throws IllegalStateException if the second officer is not below the first one",
                noWay(method + "(%)"));
        Run.sentence(promise, "Returns the greatest severity of an order that all officers on the way would not refuse"
                + " now (from 0 to 100)", """
                appoint(0, 8, 0)
                appoint(0, 8, 1)
                appoint(0, 8, 99)
                appoint(0, 8, 100)
                METHOD(0, 1) = 0
                METHOD(0, 2) = 1
                METHOD(0, 3) = 99
                METHOD(0, 4) = 100
                issue(0, 1, 0)
                issue(0, 3, 99)
                passHours(1) = 2
                METHOD(0, 1) = 2
                METHOD(0, 3) = 100
                """.replace("METHOD", method));
        Run.sentence(promise, "found from the loyalties on the way; the first officer of the way does not count.",
                (Rows.FLEET + """
                METHOD(1, 3) = 90
                METHOD(0, 3) = 60
                METHOD(3, 4) = 50
                METHOD(1, 4) = 50
                METHOD(0, 4) = 50
                METHOD(0, 5) = 10
                appoint(5, 2, 70) = 6
                METHOD(5, 6) = 70
                METHOD(3, 6) = 10
                METHOD(0, 6) = 10
                """).replace("METHOD", method));
        Run.sentence(promise, "all officers on the way (of the longest way)", (Rows.CHAIN + """
                METHOD(0, 8) = 92
                METHOD(1, 8) = 93
                METHOD(7, 8) = 99
                issue(0, 8, 92)
                passHours(8) = 1
                issue(0, 8, 93)
                passHours(8) = 0
                refusals(1) = 1
                """).replace("METHOD", method));
    }

    private static void firstRefusal() {
        Run.sentence("29", "Throws IndexOutOfBoundsException if there is no such officer in the navy, for either",
                Rows.GAP + Rows.eachAbsent("firstRefusal(%, 1, 100)" + Rows.INDEX)
                + Rows.eachAbsent("firstRefusal(0, %, 100)" + Rows.INDEX)
                + Rows.eachAbsent("firstRefusal(%, %, 100)" + Rows.INDEX));
        Run.sentence("29", "Throws IllegalArgumentException if the severity is out of range", Rows.FLEET
                + Rows.each("firstRefusal(0, 4, %)" + Rows.ARGUMENT, "MIN", -1, 101, 256, "MAX"));
        Run.sentence("29", "severity: the severity, 0 to 100", Rows.FLEET + """
                firstRefusal(0, 4, -1) throws.IllegalArgumentException
                firstRefusal(0, 4, 101) throws.IllegalArgumentException
                firstRefusal(0, 4, 0) throws.NoSuchElementException
                firstRefusal(0, 4, 100) = 1
                """);
        Run.sentence("29", "Throws IllegalStateException if the second officer is not below the first one",
                noWay("firstRefusal(%, 100)"));
        Run.sentence("29", "Throws NoSuchElementException if nobody would refuse it", Rows.FLEET + """
                firstRefusal(0, 4, 50) throws.NoSuchElementException
                firstRefusal(0, 4, 51) = 4
                firstRefusal(0, 3, 60) throws.NoSuchElementException
                firstRefusal(0, 3, 61) = 1
                firstRefusal(3, 5, 10) throws.NoSuchElementException
                firstRefusal(3, 5, 11) = 5
                """);
        Run.sentence("29", "who would refuse an order of a severity now (the ends of the loyalties)", """
                appoint(0, 8, 0)
                appoint(0, 8, 100)
                firstRefusal(0, 1, 0) throws.NoSuchElementException
                firstRefusal(0, 1, 1) = 1
                firstRefusal(0, 2, 100) throws.NoSuchElementException
                issue(0, 1, 0)
                passHours(1) = 1
                firstRefusal(0, 1, 2) throws.NoSuchElementException
                firstRefusal(0, 1, 3) = 1
                """);
        Run.sentence("29", "Returns the first officer on the way, the first one of the way excepted", Rows.FLEET + """
                firstRefusal(0, 4, 61) = 1
                firstRefusal(1, 4, 61) = 4
                firstRefusal(1, 4, 91) = 3
                firstRefusal(1, 5, 100) = 3
                firstRefusal(3, 5, 100) = 5
                appoint(5, 2, 70) = 6
                firstRefusal(5, 6, 70) throws.NoSuchElementException
                firstRefusal(5, 6, 71) = 6
                """);
    }

    private static void firstListedException() {
        Run.sentence("Errors", "If several exceptions apply, the one listed first is thrown. (predictions)",
                Rows.GAP + """
                hoursFor(5, 2) throws.IndexOutOfBoundsException
                greatestSeverity(2, 0) throws.IndexOutOfBoundsException
                greatestSeverityByTrial(5, 6) throws.IndexOutOfBoundsException
                firstRefusal(0, 2, 101) throws.IndexOutOfBoundsException
                firstRefusal(6, 0, -1) throws.IndexOutOfBoundsException
                firstRefusal(4, 4, -1) throws.IllegalArgumentException
                firstRefusal(5, 0, 101) throws.IllegalArgumentException
                firstRefusal(0, 5, -1) throws.IllegalArgumentException
                firstRefusal(5, 0, 0) throws.IllegalStateException
                """);
    }

    public static void main(String[] args) {
        hoursFor();
        greatestSeverity("27", "greatestSeverity");
        greatestSeverity("28", "greatestSeverityByTrial");
        firstRefusal();
        firstListedException();
        Run.end("PredictionTests");
    }
}
