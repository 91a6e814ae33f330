/** Promises 2 to 5 and the terms Officers and Dismissal: officers are appointed, promoted, transferred, dismissed. */
public final class OfficerChangeTests {
    private OfficerChangeTests() {
    }

    private static void termOfficers() {
        Run.sentence("Officers", "At most 12 officers have been appointed, the admiral included.", """
                10 x appoint(0, 5, 50)
                appointedCount() = 11
                appoint(0, 5, 50) = 11
                appointedCount() = 12
                appoint(0, 5, 50) throws.IllegalStateException
                appointedCount() = 12
                officerCount() = 12
                """);
        Run.sentence("Officers", "Their indices start at 0, follow the order in which they were appointed, and never"
                + " change.", """
                isInNavy(0) = true
                appoint(0, 5, 11) = 1
                appoint(1, 4, 22) = 2
                appoint(0, 5, 33) = 3
                dismiss(3)
                dismiss(1)
                loyalty(2) = 22
                appoint(0, 5, 44) = 4
                isInNavy(1) = false
                isInNavy(3) = false
                loyalty(2) = 22
                loyalty(4) = 44
                """);
        Run.sentence("Officers", "An officer has a rank from 1 to 9, a loyalty from 0 to 100, and a number of"
                + " refusals, initially 0.", """
                appoint(0, 1, 0) = 1
                rank(1) = 1
                loyalty(1) = 0
                refusals(1) = 0
                appoint(0, 8, 100) = 2
                rank(2) = 8
                loyalty(2) = 100
                refusals(2) = 0
                rank(0) = 9
                """);
        Run.sentence("Officers", "Officer 0 is the admiral; the admiral has the rank 9 and the loyalty 100 at first,"
                + " and has no superior.", """
                rank(0) = 9
                loyalty(0) = 100
                superior(0) throws.NoSuchElementException
                """);
    }

    private static void termOfficersSuperiors() {
        Run.sentence("Officers", "Each other officer has a superior, whose rank is greater than its own.", """
                appoint(0, 6, 50)
                appoint(1, 6, 50) throws.IllegalArgumentException
                appoint(1, 5, 50) = 2
                superior(2) = 1
                promote(2) throws.IllegalStateException
                appoint(0, 5, 50) = 3
                transfer(2, 3) throws.IllegalStateException
                dismiss(1)
                superior(2) = 0
                promote(2) = 6
                """);
        Run.sentence("Officers", "The subordinates of an officer are those officers whose superior it is.",
                Rows.FLEET + """
                subordinates(0) = 2
                subordinates(1) = 1
                subordinates(3) = 2
                subordinates(4) = 0
                """);
        Run.sentence("Officers", "An officer that was dismissed is not in the navy any more and has neither a superior"
                + " nor subordinates.", Rows.FLEET + """
                dismiss(3) = 2
                isInNavy(3) = false
                superior(3) throws.IndexOutOfBoundsException
                subordinates(3) throws.IndexOutOfBoundsException
                subordinates(1) = 2
                superior(4) = 1
                superior(5) = 1
                write(0) = 0(1(4,5),2)
                """);
    }

    private static void appointOfficersAndRanks() {
        Run.sentence("2", "Throws IndexOutOfBoundsException if there is no such officer in the navy",
                Rows.GAP + Rows.eachAbsent("appoint(%, 1, 50)" + Rows.INDEX) + """
                appoint(0, 1, 50) = 6
                appoint(5, 1, 50) = 7
                appoint(6, 1, 50) throws.IllegalArgumentException
                appoint(8, 1, 50) throws.IndexOutOfBoundsException
                """);
        Run.sentence("2", "rank: the rank, from 1 to the rank of the superior minus 1", """
                appoint(0, 0, 50) throws.IllegalArgumentException
                appoint(0, 9, 50) throws.IllegalArgumentException
                appoint(0, 1, 50) = 1
                rank(1) = 1
                appoint(0, 8, 50) = 2
                rank(2) = 8
                appoint(2, 8, 50) throws.IllegalArgumentException
                appoint(2, 0, 50) throws.IllegalArgumentException
                appoint(2, 7, 50) = 3
                rank(3) = 7
                appoint(2, 1, 50) = 4
                rank(4) = 1
                """);
        Run.sentence("2", "from 1 to the rank of the superior minus 1 (nobody goes below the rank 1, one rank below"
                + " 2, and a promotion gives room)", """
                appoint(0, 1, 50) = 1
                appoint(1, 1, 50) throws.IllegalArgumentException
                appoint(1, 0, 50) throws.IllegalArgumentException
                promote(1) = 2
                appoint(1, 2, 50) throws.IllegalArgumentException
                appoint(1, 0, 50) throws.IllegalArgumentException
                appoint(1, 1, 50) = 2
                """);
    }

    private static void appointLoyaltiesAndNumbers() {
        Run.sentence("2", "Throws IllegalArgumentException if the rank or the loyalty is out of range",
                Rows.each("appoint(0, %, 50)" + Rows.ARGUMENT, "MIN", -1, 0, 9, 10, 257, "MAX")
                + Rows.each("appoint(0, 5, %)" + Rows.ARGUMENT, "MIN", -1, 101, 256, "MAX")
                + Rows.each("appoint(0, %, 101)" + Rows.ARGUMENT, 0, 9) + """
                officerCount() = 1
                appoint(0, 8, 100) = 1
                """);
        Run.sentence("2", "loyalty: the loyalty, 0 to 100", """
                appoint(0, 5, -1) throws.IllegalArgumentException
                appoint(0, 5, 101) throws.IllegalArgumentException
                appoint(0, 5, 0) = 1
                loyalty(1) = 0
                appoint(0, 5, 100) = 2
                loyalty(2) = 100
                """);
        Run.sentence("2", "Returns the index of the officer.", """
                appoint(0, 5, 50) = 1
                appoint(1, 4, 50) = 2
                dismiss(2)
                appoint(0, 5, 50) = 3
                7 x appoint(0, 5, 50)
                appoint(0, 5, 50) = 11
                isInNavy(11) = true
                """);
        Run.sentence("2", "Throws IllegalStateException if 12 officers have been appointed", """
                10 x appoint(0, 5, 50)
                appoint(10, 4, 50) = 11
                appoint(0, 5, 50) throws.IllegalStateException
                appoint(11, 1, 50) throws.IllegalStateException
                undo() = 7
                appoint(0, 8, 60) = 11
                appoint(0, 8, 60) throws.IllegalStateException
                """);
        Run.sentence("2", "if 12 officers have been appointed (dismissed ones too)", Rows.FULL + """
                dismiss(3)
                dismiss(11)
                officerCount() = 10
                appoint(0, 5, 50) throws.IllegalStateException
                """);
        Run.sentence("Errors", "If several exceptions apply, the one listed first is thrown. (appoint)", Rows.FULL + """
                appoint(12, 1, 50) throws.IndexOutOfBoundsException
                appoint(-1, 0, 101) throws.IndexOutOfBoundsException
                appoint(0, 9, 50) throws.IllegalArgumentException
                appoint(0, 0, 50) throws.IllegalArgumentException
                appoint(0, 5, 101) throws.IllegalArgumentException
                appoint(0, 5, -1) throws.IllegalArgumentException
                appoint(0, 5, 50) throws.IllegalStateException
                """);
    }

    private static void promote() {
        Run.sentence("3", "Throws IndexOutOfBoundsException if there is no such officer in the navy",
                Rows.GAP + Rows.eachAbsent("promote(%)" + Rows.INDEX) + """
                promote(1) = 7
                promote(4) = 3
                """);
        Run.sentence("3", "Increases the rank of an officer by 1. (from the least rank to the greatest)", """
                appoint(0, 1, 50)
                promote(1) = 2
                rank(1) = 2
                5 x promote(1)
                rank(1) = 7
                promote(1) = 8
                promote(1) throws.IllegalStateException
                rank(1) = 8
                """);
        Run.sentence("3", "Throws IllegalStateException if it is the admiral", Rows.FLEET + """
                promote(0) throws.IllegalStateException
                rank(0) = 9
                """);
        Run.sentence("3", "or its superior would not have a greater rank any more", Rows.FLEET + """
                // 5 has the rank 3 and 3 the rank 4; 4 has the rank 2
                promote(5) throws.IllegalStateException
                promote(4) = 3
                promote(4) throws.IllegalStateException
                rank(4) = 3
                promote(3) = 5
                promote(4) = 4
                promote(5) = 4
                promote(3) throws.IllegalStateException
                """);
    }

    private static void transferWrongOfficers() {
        Run.sentence("4", "Throws IndexOutOfBoundsException if there is no such officer in the navy, for either",
                Rows.GAP + Rows.eachAbsent("transfer(%, 0)" + Rows.INDEX)
                + Rows.eachAbsent("transfer(4, %)" + Rows.INDEX)
                + Rows.eachAbsent("transfer(%, %)" + Rows.INDEX)
                + Rows.eachAbsent("transfer(0, %)" + Rows.INDEX) + """
                transfer(5, 0) = 5
                """);
        Run.sentence("4", "Throws IllegalArgumentException if the officer is the admiral, or both are the same"
                + " officer", Rows.FLEET + """
                transfer(0, 1) throws.IllegalArgumentException
                transfer(0, 5) throws.IllegalArgumentException
                transfer(0, 0) throws.IllegalArgumentException
                transfer(1, 1) throws.IllegalArgumentException
                transfer(5, 5) throws.IllegalArgumentException
                transfer(1, 0) = 6
                """);
        Run.sentence("4", "Throws UnsupportedOperationException if the new superior is below the officer",
                Rows.FLEET + """
                transfer(3, 4) throws.UnsupportedOperationException
                transfer(1, 3) throws.UnsupportedOperationException
                transfer(1, 5) throws.UnsupportedOperationException
                transfer(1, 2) throws.IllegalStateException
                """);
        Run.sentence("4", "Throws IllegalStateException if the rank of the new superior is not greater than that of"
                + " the officer", Rows.FLEET + """
                // 1 has the rank 6, 2 the rank 5, 3 the rank 4
                transfer(1, 2) throws.IllegalStateException
                promote(2) = 6
                transfer(1, 2) throws.IllegalStateException
                promote(2) = 7
                transfer(1, 2) = 5
                transfer(5, 4) throws.IllegalStateException
                transfer(4, 5) = 2
                """);
    }

    private static void transferAnswers() {
        Run.sentence("4", "Returns the number of officers in the command of the new superior afterwards.",
                Rows.FLEET + """
                transfer(4, 2) = 2
                transfer(3, 2) = 4
                transfer(3, 2) = 4
                transfer(2, 1) = 5
                transfer(3, 0) = 6
                """);
        Run.sentence("4", "the number of officers in the command of the new superior (of the full navy)",
                Rows.FULL + """
                promote(1) = 6
                transfer(11, 1) = 2
                transfer(11, 0) = 12
                transfer(2, 1) = 2
                transfer(3, 1) = 3
                transfer(1, 0) = 12
                """);
        Run.sentence("4", "Gives an officer another superior. The officers below it stay below it.", Rows.FLEET + """
                transfer(3, 2) = 4
                superior(3) = 2
                superior(4) = 3
                superior(5) = 3
                write(0) = 0(1,2(3(4,5)))
                isAbove(2, 5) = true
                isAbove(1, 5) = false
                """);
        Run.sentence("4", "(the superior may be the one that it has)", Rows.FLEET + """
                transfer(3, 1) = 4
                write(0) = 0(1(3(4,5)),2)
                """);
        Run.sentence("Errors", "If several exceptions apply, the one listed first is thrown. (transfer)",
                Rows.GAP + """
                transfer(0, 2) throws.IndexOutOfBoundsException
                transfer(2, 2) throws.IndexOutOfBoundsException
                transfer(2, 0) throws.IndexOutOfBoundsException
                transfer(0, 4) throws.IllegalArgumentException
                transfer(4, 4) throws.IllegalArgumentException
                transfer(1, 4) throws.UnsupportedOperationException
                """);
    }

    private static void dismiss() {
        Run.sentence("5", "Throws IndexOutOfBoundsException if there is no such officer in the navy",
                Rows.GAP + Rows.eachAbsent("dismiss(%)" + Rows.INDEX) + """
                dismiss(5) = 0
                dismiss(5) throws.IndexOutOfBoundsException
                dismiss(1) = 1
                """);
        Run.sentence("5", "Throws IllegalArgumentException if it is the admiral", """
                dismiss(0) throws.IllegalArgumentException
                appoint(0, 5, 50)
                dismiss(0) throws.IllegalArgumentException
                dismiss(1) = 0
                dismiss(0) throws.IllegalArgumentException
                """);
        Run.sentence("5", "Returns the number of its subordinates. (of none, one and two; those further down don't"
                + " count)", Rows.FLEET + """
                dismiss(2) = 0
                dismiss(1) = 1
                dismiss(3) = 2
                """);
        Run.sentence("5", "Returns the number of its subordinates. (the most that there can be)", """
                appoint(0, 8, 50)
                10 x appoint(1, 5, 50)
                dismiss(1) = 10
                subordinates(0) = 10
                """);
    }

    private static void termDismissal() {
        Run.sentence("Dismissal", "When an officer is dismissed, the superior of its subordinates is its own superior"
                + " from then on.", Rows.FLEET + """
                dismiss(3)
                superior(4) = 1
                superior(5) = 1
                superior(1) = 0
                dismiss(1)
                superior(4) = 0
                superior(5) = 0
                superior(2) = 0
                write(0) = 0(2,4,5)
                """);
        Run.sentence("Dismissal", "Orders that it holds are lost at once.", Rows.FLEET + """
                issue(3, 5, 1) = 0
                issue(1, 4, 2) = 1
                issue(3, 4, 3) = 2
                issue(0, 3, 4) = 3
                dismiss(3)
                lostOrders() = 2
                orderCount() = 2
                severity(0) = 2
                holder(0) = 1
                severity(1) = 4
                holder(1) = 0
                target(1) = 3
                """);
        Run.sentence("Dismissal", "Orders that it holds are lost at once. (all six, and none)", Rows.FLEET + """
                6 x issue(3, 5, 1)
                dismiss(4)
                orderCount() = 6
                lostOrders() = 0
                dismiss(3)
                orderCount() = 0
                lostOrders() = 6
                issue(1, 5, 1) = 0
                """);
    }

    public static void main(String[] args) {
        termOfficers();
        termOfficersSuperiors();
        appointOfficersAndRanks();
        appointLoyaltiesAndNumbers();
        promote();
        transferWrongOfficers();
        transferAnswers();
        dismiss();
        termDismissal();
        Run.end("OfficerChangeTests");
    }
}
