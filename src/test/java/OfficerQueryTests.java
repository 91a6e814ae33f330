/** Promises 1, 11 to 25, 40, 41 and 43 and the term Command: what is told of the officers and their tree. */
public final class OfficerQueryTests {
    private OfficerQueryTests() {
    }

    private static void newObject() {
        Run.sentence("1", "Creates a navy with an admiral only", """
                officerCount() = 1
                appointedCount() = 1
                isInNavy(0) = true
                rank(0) = 9
                loyalty(0) = 100
                refusals(0) = 0
                subordinates(0) = 0
                greatestDepth() = 0
                officerByRank(0) = 0
                officerByRank(1) throws.NoSuchElementException
                meanLoyalty() = 100.0
                isConsistent() = true
                """ + Rows.each("isInNavy(%) = false", 1, 2, 3, 4, 5, 6, 7, 8, 9, 10, 11));
        Run.sentence("1", "and an empty code book, at hour 0.", """
                flagCount() = 0
                meaning('a', 'a') throws.NoSuchElementException
                meaning('z', 'z') throws.NoSuchElementException
                flagsWith(0) = 0
                flagsWith(99) = 0
                hour() = 0
                """);
        Run.sentence("1", "(no orders, no sums, no input, no output, nothing to undo or restore)", """
                orderCount() = 0
                executedOrders() = 0
                refusedOrders() = 0
                lostOrders() = 0
                undoCount() = 0
                outputChar(0) throws.IndexOutOfBoundsException
                errorPosition() throws.NoSuchElementException
                failedCommand() throws.NoSuchElementException
                undo() throws.IllegalStateException
                restore() throws.IllegalStateException
                feed('w') = 1
                """);
    }

    private static void counts() {
        Run.sentence("11", "Returns the number, 1 to 12.", """
                officerCount() = 1
                appoint(0, 5, 50)
                officerCount() = 2
                9 x appoint(0, 5, 50)
                officerCount() = 11
                appoint(0, 5, 50)
                officerCount() = 12
                appoint(0, 5, 50) throws.IllegalStateException
                officerCount() = 12
                dismiss(12) throws.IndexOutOfBoundsException
                dismiss(11)
                officerCount() = 11
                """);
        Run.sentence("11", "(each is dismissed, and the admiral stays)", Rows.FLEET + """
                dismiss(1)
                dismiss(2)
                dismiss(3)
                dismiss(4)
                officerCount() = 2
                dismiss(5)
                officerCount() = 1
                dismiss(0) throws.IllegalArgumentException
                officerCount() = 1
                """);
        Run.sentence("12", "Returns the number, 1 to 12.", """
                appointedCount() = 1
                appoint(0, 5, 50)
                appointedCount() = 2
                9 x appoint(0, 5, 50)
                appointedCount() = 11
                appoint(0, 5, 50)
                appointedCount() = 12
                appoint(0, 5, 50) throws.IllegalStateException
                appointedCount() = 12
                """);
        Run.sentence("12", "the admiral and dismissed ones included.", Rows.FLEET + """
                appointedCount() = 6
                dismiss(3)
                appointedCount() = 6
                dismiss(5)
                appointedCount() = 6
                appoint(0, 5, 50)
                appointedCount() = 7
                """);
        Run.sentence("13", "officer: any number", Rows.GAP
                + Rows.eachAbsent("isInNavy(%) = false") + Rows.each("isInNavy(%) = true", 0, 1, 3, 4, 5));
        Run.sentence("13", "any number (of the full navy)", Rows.FULL + """
                isInNavy(-1) = false
                isInNavy(0) = true
                isInNavy(11) = true
                isInNavy(12) = false
                dismiss(11)
                isInNavy(11) = false
                """);
    }

    private static void absentOfficers() {
        String[] promises = {"14 rank", "15 loyalty", "16 refusals", "17 superior", "18 subordinates", "19 depth",
                "20 depthFromTop", "21 commandSize", "22 commandSizeByCounting"};
        for (String promise : promises) {
            String number = promise.substring(0, 2);
            String method = promise.substring(3);
            Run.sentence(number, "Throws IndexOutOfBoundsException if there is no such officer in the navy",
                    Rows.GAP + Rows.eachAbsent(method + "(%)" + Rows.INDEX)
                    + Rows.each(method + "(%)", 1, 3, 4, 5));
            Run.sentence(number, "if there is no such officer in the navy (of the full navy)",
                    Rows.FULL + method + "(11)\n" + method + "(12)" + Rows.INDEX + "\n" + method + "(1)\n");
        }
        for (String promise : new String[] {"23 isAbove", "24 commonSuperior"}) {
            String number = promise.substring(0, 2);
            String method = promise.substring(3);
            Run.sentence(number, "Throws IndexOutOfBoundsException if there is no such officer in the navy, for either",
                    Rows.GAP + Rows.eachAbsent(method + "(%, 0)" + Rows.INDEX)
                    + Rows.eachAbsent(method + "(0, %)" + Rows.INDEX)
                    + Rows.eachAbsent(method + "(%, %)" + Rows.INDEX));
            Run.sentence(number, "if there is no such officer in the navy, for either (of the full navy)",
                    Rows.FULL + method + "(0, 11)\n" + method + "(11, 0)\n"
                    + method + "(0, 12)" + Rows.INDEX + "\n" + method + "(12, 0)" + Rows.INDEX);
        }
    }

    private static void ranksLoyaltiesRefusals() {
        Run.sentence("14", "Returns the rank. (the least and the greatest)", """
                rank(0) = 9
                appoint(0, 8, 50)
                appoint(1, 1, 50)
                rank(1) = 8
                rank(2) = 1
                promote(2)
                rank(2) = 2
                """);
        Run.sentence("15", "Returns the loyalty. (the least and the greatest)", """
                loyalty(0) = 100
                appoint(0, 8, 0)
                appoint(0, 8, 100)
                loyalty(1) = 0
                loyalty(2) = 100
                issue(0, 1, 0)
                issue(0, 2, 100)
                passHours(1) = 2
                loyalty(1) = 2
                loyalty(2) = 100
                """);
        Run.sentence("16", "Returns the number of refusals, 0 to 2.", """
                appoint(0, 8, 50)
                refusals(1) = 0
                issue(0, 1, 51)
                passHours(1)
                refusals(1) = 1
                issue(0, 1, 51)
                passHours(1)
                refusals(1) = 2
                issue(0, 1, 50)
                passHours(1) = 1
                refusals(1) = 2
                issue(0, 1, 100)
                passHours(1)
                refusals(1) throws.IndexOutOfBoundsException
                refusals(0) = 0
                """);
        Run.sentence("17", "Throws NoSuchElementException if it is the admiral", Rows.FLEET + """
                superior(0) throws.NoSuchElementException
                superior(1) = 0
                superior(2) = 0
                superior(3) = 1
                superior(4) = 3
                superior(5) = 3
                """);
        Run.sentence("18", "Returns the number of officers. (none, one, the most that there can be)", """
                subordinates(0) = 0
                appoint(0, 5, 50)
                subordinates(0) = 1
                subordinates(1) = 0
                appoint(1, 4, 50)
                subordinates(0) = 1
                subordinates(1) = 1
                9 x appoint(0, 5, 50)
                subordinates(0) = 10
                transfer(2, 0)
                subordinates(0) = 11
                subordinates(1) = 0
                """);
    }

    private static void depthsAndSizes() {
        Run.sentence("19", "Returns the number of officers, 0 for the admiral.",
                "depth(0) = 0\n" + Rows.CHAIN + Rows.each("depth(%) = %", 0, 1, 2, 3, 4, 5, 6, 7, 8));
        Run.sentence("20", "Returns the same number as depth, found by searching from the admiral downwards.",
                "depthFromTop(0) = 0\n" + Rows.CHAIN + Rows.each("depthFromTop(%) = %", 0, 1, 2, 3, 4, 5, 6, 7, 8));
        Run.sentence("20", "the same number as depth (of the last of many subordinates)", Rows.FULL + """
                promote(11)
                transfer(1, 11)
                depthFromTop(11) = 1
                depthFromTop(1) = 2
                depth(1) = 2
                """);
        for (String promise : new String[] {"21 commandSize", "22 commandSizeByCounting"}) {
            String method = promise.substring(3);
            Run.sentence(promise.substring(0, 2), "Returns the number of officers. (from 1 to 12)",
                    (Rows.CHAIN + """
                    METHOD(8) = 1
                    METHOD(7) = 2
                    METHOD(1) = 8
                    METHOD(0) = 9
                    appoint(1, 5, 50)
                    2 x appoint(0, 5, 50)
                    METHOD(1) = 9
                    METHOD(0) = 12
                    dismiss(8)
                    METHOD(7) = 1
                    METHOD(0) = 11
                    """).replace("METHOD", method));
            Run.sentence(promise.substring(0, 2), "Returns the number of officers. (of the admiral alone)",
                    method + "(0) = 1\nappoint(0, 5, 50)\n" + method + "(0) = 2\ndismiss(1)\n" + method + "(0) = 1\n");
        }
        Run.sentence("25", "Returns the greatest depth of all officers. (from 0 to 8)", """
                greatestDepth() = 0
                appoint(0, 5, 50)
                greatestDepth() = 1
                undo()
                """ + Rows.CHAIN + """
                greatestDepth() = 8
                appoint(8, 1, 50) throws.IllegalArgumentException
                dismiss(8)
                greatestDepth() = 7
                dismiss(1)
                greatestDepth() = 6
                """);
    }

    private static void termCommand() {
        Run.sentence("Command", "An officer is above another one if it is the superior of this one, or the superior of"
                + " its superior, and so on. (and not above itself, upwards or sideways)", Rows.FLEET + """
                isAbove(0, 1) = true
                isAbove(0, 3) = true
                isAbove(0, 5) = true
                isAbove(3, 4) = true
                isAbove(0, 0) = false
                isAbove(3, 3) = false
                isAbove(1, 0) = false
                isAbove(5, 0) = false
                isAbove(4, 3) = false
                isAbove(2, 5) = false
                isAbove(1, 2) = false
                isAbove(4, 5) = false
                """);
        Run.sentence("23", "Returns true if the first one is above the second one. (the ends of the longest way)",
                Rows.CHAIN + """
                isAbove(0, 8) = true
                isAbove(8, 0) = false
                isAbove(7, 8) = true
                isAbove(8, 8) = false
                """);
        Run.sentence("Command", "The command of an officer consists of the officer and all officers below it.",
                Rows.FLEET + """
                commandSize(4) = 1
                commandSize(3) = 3
                commandSize(0) = 6
                commonSuperior(3, 5) = 3
                commonSuperior(5, 3) = 3
                """);
        Run.sentence("24", "second: index of an officer, which may be the same", Rows.FLEET + """
                commonSuperior(0, 0) = 0
                commonSuperior(5, 5) = 5
                commonSuperior(1, 1) = 1
                """);
        Run.sentence("24", "Returns the officer with the greatest depth in whose command both officers are.",
                Rows.FLEET + """
                commonSuperior(4, 5) = 3
                commonSuperior(5, 4) = 3
                commonSuperior(1, 4) = 1
                commonSuperior(4, 1) = 1
                commonSuperior(4, 2) = 0
                commonSuperior(2, 4) = 0
                commonSuperior(0, 5) = 0
                commonSuperior(5, 0) = 0
                """);
        Run.sentence("24", "(the ends of the longest way)", Rows.CHAIN + """
                commonSuperior(8, 0) = 0
                commonSuperior(0, 8) = 0
                commonSuperior(8, 7) = 7
                commonSuperior(8, 8) = 8
                appoint(0, 1, 50) = 9
                commonSuperior(8, 9) = 0
                commonSuperior(9, 8) = 0
                """);
    }

    private static void officerByRank() {
        Run.sentence("40", "Throws NoSuchElementException if there is no such place", Rows.FLEET
                + Rows.each("officerByRank(%)" + Rows.ELEMENT, "MIN", -1, 6, 7, 11, 12, 256, "MAX") + """
                officerByRank(0) = 0
                officerByRank(5) = 4
                dismiss(1)
                officerByRank(5) throws.NoSuchElementException
                officerByRank(4) = 4
                """);
        Run.sentence("40", "place: the place, counted from 0 (of the full navy, and of the admiral alone)", """
                officerByRank(0) = 0
                officerByRank(1) throws.NoSuchElementException
                """ + Rows.FULL + """
                officerByRank(0) = 0
                officerByRank(1) = 1
                officerByRank(11) = 11
                officerByRank(12) throws.NoSuchElementException
                """);
        Run.sentence("40", "sorted by rank in descending order, then by loyalty in descending order, then by index in"
                + " ascending order.", """
                appoint(0, 3, 50)
                appoint(0, 3, 60)
                appoint(0, 3, 50)
                appoint(0, 7, 0)
                appoint(0, 2, 100)
                officerByRank(0) = 0
                officerByRank(1) = 4
                officerByRank(2) = 2
                officerByRank(3) = 1
                officerByRank(4) = 3
                officerByRank(5) = 5
                dismiss(2)
                officerByRank(2) = 1
                officerByRank(4) = 5
                """);
    }

    private static void meansAndConsistency() {
        Run.sentence("41", "Returns the mean loyalty of all officers in the navy: the sum converted to double, divided"
                + " by their number converted to double. (one officer, two, twelve)", """
                meanLoyalty() = 100.0
                appoint(0, 5, 1)
                meanLoyalty() = 50.5
                dismiss(1)
                meanLoyalty() = 100.0
                appoint(0, 5, 0)
                appoint(0, 5, 1)
                """ + "meanLoyalty() = " + 101.0 / 3.0 + "\n8 x appoint(0, 5, 0)\nmeanLoyalty() = " + 101.0 / 11.0);
        Run.sentence("41", "the sum converted to double, divided by their number converted to double. (least and"
                + " greatest)", "11 x appoint(0, 5, 0)\nmeanLoyalty() = " + 100.0 / 12.0
                + "\n8 x undo()\n8 x appoint(0, 5, 100)\nmeanLoyalty() = " + 900.0 / 12.0);
        Run.sentence("43", "both ways to find depths and sizes of commands agree for all officers, and each superior"
                + " has a greater rank. (whatever calls have been made)", "isConsistent() = true\n" + Rows.CHAIN + """
                isConsistent() = true
                3 x appoint(0, 8, 50)
                isConsistent() = true
                transfer(1, 0)
                dismiss(4)
                isConsistent() = true
                promote(5)
                isConsistent() = true
                undo()
                isConsistent() = true
                run(fire 1;fire 11;wait)
                isConsistent() = true
                """);
    }

    public static void main(String[] args) {
        newObject();
        counts();
        absentOfficers();
        ranksLoyaltiesRefusals();
        depthsAndSizes();
        termCommand();
        officerByRank();
        meansAndConsistency();
        Run.end("OfficerQueryTests");
    }
}
