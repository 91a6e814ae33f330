/** Promises 6, 7, 10, 30 to 36 and 42 and the terms Orders and Hours: orders and the hours that carry them down. */
public final class OrderTests {
    private OrderTests() {
    }

    private static void termOrders() {
        Run.sentence("Orders", "At most 6 orders are under way", Rows.LINE + """
                5 x issue(0, 3, 10)
                orderCount() = 5
                issue(0, 3, 10) = 5
                orderCount() = 6
                issue(0, 3, 10) throws.UnsupportedOperationException
                orderCount() = 6
                """);
        Run.sentence("Orders", "their indices start at 0 and follow the order in which they were issued; when an order"
                + " ends, the indices of the later orders decrease by 1.", Rows.LINE + """
                issue(0, 3, 10) = 0
                issue(0, 4, 20) = 1
                issue(0, 3, 30) = 2
                issue(0, 1, 51) = 3
                issue(0, 3, 40) = 4
                passHours(1) = 1
                orderCount() = 3
                severity(0) = 10
                severity(1) = 30
                severity(2) = 40
                issue(0, 1, 50) = 3
                severity(3) = 50
                """);
        Run.sentence("Orders", "(the first, the last and the only one end)", Rows.LINE + """
                issue(2, 3, 1) = 0
                issue(0, 3, 2) = 1
                issue(2, 3, 3) = 2
                passHours(1) = 2
                orderCount() = 1
                severity(0) = 2
                passHours(2) = 1
                orderCount() = 0
                severity(0) throws.IndexOutOfBoundsException
                issue(0, 1, 5) = 0
                """);
        Run.sentence("Orders", "An order has a holder, which is the officer who issued it at first, a target, which is"
                + " an officer below the holder, and a severity from 0 to 100.", Rows.LINE + """
                issue(1, 3, 0) = 0
                issue(0, 4, 100) = 1
                holder(0) = 1
                target(0) = 3
                severity(0) = 0
                holder(1) = 0
                target(1) = 4
                severity(1) = 100
                """);
    }

    private static void issue() {
        Run.sentence("6", "Throws IndexOutOfBoundsException if there is no such officer in the navy, for either",
                Rows.GAP + Rows.eachAbsent("issue(%, 1, 10)" + Rows.INDEX)
                + Rows.eachAbsent("issue(0, %, 10)" + Rows.INDEX)
                + Rows.eachAbsent("issue(%, %, 10)" + Rows.INDEX) + "issue(0, 5, 10) = 0\n");
        Run.sentence("6", "no such officer in the navy (of the full navy)", Rows.FULL + """
                issue(0, 12, 10) throws.IndexOutOfBoundsException
                issue(12, 0, 10) throws.IndexOutOfBoundsException
                issue(0, 11, 10) = 0
                """);
        Run.sentence("6", "Throws IllegalArgumentException if the severity is out of range", Rows.LINE
                + Rows.each("issue(0, 3, %)" + Rows.ARGUMENT, "MIN", -1, 101, 256, "MAX") + """
                orderCount() = 0
                issue(0, 3, 50) = 0
                """);
        Run.sentence("6", "severity: the severity, 0 to 100", Rows.LINE + """
                issue(0, 3, -1) throws.IllegalArgumentException
                issue(0, 3, 101) throws.IllegalArgumentException
                issue(0, 3, 0) = 0
                severity(0) = 0
                issue(0, 3, 100) = 1
                severity(1) = 100
                """);
        Run.sentence("6", "Throws IllegalStateException if the target is not below the other officer", Rows.LINE + """
                issue(0, 0, 10) throws.IllegalStateException
                issue(3, 3, 10) throws.IllegalStateException
                issue(1, 0, 10) throws.IllegalStateException
                issue(3, 1, 10) throws.IllegalStateException
                issue(1, 4, 10) throws.IllegalStateException
                issue(4, 3, 10) throws.IllegalStateException
                issue(2, 3, 10) = 0
                issue(1, 3, 10) = 1
                """);
        Run.sentence("6", "Throws UnsupportedOperationException if 6 orders are under way", Rows.LINE + """
                issue(0, 4, 10) = 0
                issue(0, 3, 10) = 1
                issue(0, 3, 10) = 2
                issue(0, 3, 10) = 3
                issue(0, 3, 10) = 4
                issue(0, 3, 10) = 5
                issue(0, 3, 10) throws.UnsupportedOperationException
                passHours(1) = 1
                orderCount() = 5
                issue(0, 3, 20) = 5
                issue(0, 3, 20) throws.UnsupportedOperationException
                undo() = 7
                issue(0, 3, 30) = 5
                severity(5) = 30
                """);
        Run.sentence("Errors", "If several exceptions apply, the one listed first is thrown. (issue)", Rows.LINE + """
                6 x issue(0, 3, 10)
                issue(0, 5, 101) throws.IndexOutOfBoundsException
                issue(5, 0, 10) throws.IndexOutOfBoundsException
                issue(12, 12, -1) throws.IndexOutOfBoundsException
                issue(1, 0, 101) throws.IllegalArgumentException
                issue(0, 3, -1) throws.IllegalArgumentException
                issue(1, 0, 10) throws.IllegalStateException
                issue(3, 3, 10) throws.IllegalStateException
                issue(0, 3, 10) throws.UnsupportedOperationException
                """);
    }

    private static void passHours() {
        Run.sentence("7", "Throws IllegalArgumentException if the number of hours is out of range",
                "appoint(0, 8, 50)\nissue(0, 1, 50)\n"
                + Rows.each("passHours(%)" + Rows.ARGUMENT, "MIN", -1, 0, 25, 256, "MAX") + """
                hour() = 0
                orderCount() = 1
                """);
        Run.sentence("7", "hours: the number of hours, 1 to 24", """
                passHours(0) throws.IllegalArgumentException
                passHours(25) throws.IllegalArgumentException
                passHours(1) = 0
                hour() = 1
                passHours(24) = 0
                hour() = 25
                """);
        Run.sentence("7", "Returns the number of orders that are executed. (none, one, all six; not those before)",
                Rows.LINE + """
                passHours(1) = 0
                issue(0, 1, 51)
                passHours(1) = 0
                issue(0, 1, 50)
                issue(0, 1, 100)
                passHours(24) = 1
                6 x issue(0, 4, 99)
                passHours(1) = 6
                passHours(24) = 0
                executedOrders() = 7
                """);
        Run.sentence("7", "Lets hours pass, one after the other.", Rows.CHAIN + """
                issue(0, 8, 10)
                issue(6, 8, 10)
                passHours(1) = 0
                holder(0) = 1
                holder(1) = 7
                passHours(6) = 1
                holder(0) = 7
                passHours(24) = 1
                orderCount() = 0
                """);
        Run.sentence("10", "Returns the number of hours.", """
                hour() = 0
                passHours(1)
                hour() = 1
                passHours(24)
                hour() = 25
                passHours(25) throws.IllegalArgumentException
                passHours(0) throws.IllegalArgumentException
                hour() = 25
                run(wait;wait 24)
                hour() = 50
                run(wait 9;wait 25) throws.UnsupportedOperationException
                hour() = 50
                """);
        Run.sentence("10", "the number of hours that have passed. (as many as the calls of an object allow)",
                "511 x passHours(24)\nhour() = 12264\n");
    }

    private static void hoursVisits() {
        Run.sentence("Hours", "When an hour passes, the orders are visited in the order of their indices as they are"
                + " then (the first raises the loyalty that the second asks for)", Rows.LINE + """
                issue(0, 1, 50)
                issue(0, 1, 52)
                passHours(1) = 2
                loyalty(1) = 54
                """);
        Run.sentence("Hours", "in the order of their indices as they are then (the other way round one refuses)",
                Rows.LINE + """
                issue(0, 1, 52)
                issue(0, 1, 50)
                passHours(1) = 1
                refusals(1) = 1
                loyalty(1) = 52
                """);
        Run.sentence("Hours", "each order that was under way when the hour began is visited once. (although orders"
                + " before them end)", Rows.LINE + """
                issue(0, 1, 51)
                issue(0, 3, 1)
                issue(0, 4, 2)
                issue(0, 3, 3)
                issue(0, 4, 4)
                issue(0, 3, 5)
                passHours(1) = 2
                orderCount() = 3
                holder(0) = 1
                holder(1) = 1
                holder(2) = 1
                severity(0) = 1
                severity(1) = 3
                severity(2) = 5
                """);
        Run.sentence("Hours", "each order that was under way when the hour began is visited once. (although a dismissal"
                + " ends orders that were visited before)", Rows.LINE + """
                issue(0, 1, 60)
                issue(0, 1, 60)
                passHours(1) = 0
                issue(0, 3, 1)
                issue(0, 1, 60)
                issue(0, 3, 2)
                issue(0, 4, 3)
                issue(0, 3, 4)
                passHours(1) = 1
                // the first went to 1 and is lost with it; the ways to 3 begin at 2 then
                lostOrders() = 1
                refusedOrders() = 3
                orderCount() = 2
                severity(0) = 2
                holder(0) = 2
                severity(1) = 4
                holder(1) = 2
                """);
        Run.sentence("Hours", "(a dismissal ends orders before and behind the one that is visited)", Rows.LINE + """
                issue(0, 1, 60)
                issue(0, 1, 60)
                passHours(1)
                issue(1, 3, 1)
                issue(0, 3, 2)
                issue(0, 1, 60)
                issue(1, 2, 3)
                issue(0, 4, 4)
                issue(1, 3, 5)
                passHours(1) = 1
                lostOrders() = 3
                refusedOrders() = 3
                orderCount() = 1
                severity(0) = 1
                holder(0) = 2
                """);
    }

    private static void hoursLost() {
        Run.sentence("Hours", "If the target was dismissed or is not below the holder any more, the order is lost."
                + " (dismissed)", Rows.LINE + """
                issue(0, 3, 1)
                dismiss(3)
                orderCount() = 1
                lostOrders() = 0
                passHours(1) = 0
                orderCount() = 0
                lostOrders() = 1
                refusedOrders() = 0
                """);
        Run.sentence("Hours", "or is not below the holder any more (another command has it)", Rows.LINE + """
                issue(1, 3, 1)
                issue(0, 3, 2)
                transfer(3, 4)
                lostOrders() = 0
                passHours(1) = 0
                lostOrders() = 1
                orderCount() = 1
                severity(0) = 2
                holder(0) = 4
                """);
        Run.sentence("Hours", "or is not below the holder any more (it is beside the holder now)",
                Rows.LINE + """
                issue(2, 3, 1)
                transfer(3, 1)
                passHours(1) = 0
                lostOrders() = 1
                loyalty(3) = 30
                """);
        Run.sentence("Hours", "is not below the holder any more (but it is again when the hour passes)", Rows.LINE + """
                issue(1, 3, 1)
                transfer(3, 4)
                transfer(3, 1)
                passHours(1) = 1
                lostOrders() = 0
                """);
        Run.sentence("Hours", "If the target was dismissed (in this hour, by its third refusal)", Rows.LINE + """
                issue(0, 1, 60)
                issue(0, 1, 60)
                passHours(1)
                issue(0, 1, 60)
                issue(0, 1, 1)
                issue(0, 1, 100)
                passHours(1) = 0
                refusedOrders() = 3
                lostOrders() = 2
                orderCount() = 0
                """);
    }

    private static void hoursSteps() {
        Run.sentence("Hours", "Otherwise the next officer on the way from the holder down to the target gets the"
                + " order.", Rows.LINE + """
                issue(0, 3, 1)
                passHours(1) = 0
                holder(0) = 1
                passHours(1) = 0
                holder(0) = 2
                passHours(1) = 1
                """);
        Run.sentence("Hours", "the next officer on the way (as the way is now)", Rows.LINE + """
                issue(0, 3, 1)
                passHours(1)
                dismiss(2)
                passHours(1) = 1
                issue(0, 3, 2)
                transfer(3, 4)
                passHours(1) = 0
                holder(0) = 4
                passHours(1) = 1
                """);
        Run.sentence("Hours", "Otherwise this officer is the holder from now on.", Rows.LINE + """
                issue(0, 2, 1)
                passHours(1)
                holder(0) = 1
                target(0) = 2
                severity(0) = 1
                dismiss(1)
                lostOrders() = 1
                """);
    }

    private static void hoursRefusals() {
        Run.sentence("Hours", "If the loyalty of this officer is less than the severity, it refuses the order", """
                appoint(0, 8, 50)
                issue(0, 1, 50)
                passHours(1) = 1
                loyalty(1) = 52
                issue(0, 1, 53)
                passHours(1) = 0
                refusals(1) = 1
                refusedOrders() = 1
                loyalty(1) = 52
                """);
        Run.sentence("Hours", "If the loyalty of this officer is less than the severity (the ends of both)", """
                appoint(0, 8, 0)
                appoint(0, 8, 0)
                appoint(0, 8, 100)
                appoint(0, 8, 99)
                issue(0, 1, 0)
                issue(0, 2, 1)
                issue(0, 3, 100)
                issue(0, 4, 100)
                passHours(1) = 2
                loyalty(1) = 2
                refusals(1) = 0
                refusals(2) = 1
                refusals(3) = 0
                refusals(4) = 1
                """);
        Run.sentence("Hours", "the order ends, and the number of refusals of this officer increases by 1 (on the way"
                + " to the target)", Rows.LINE + """
                issue(0, 3, 41)
                passHours(1) = 0
                orderCount() = 1
                passHours(1) = 0
                orderCount() = 0
                refusals(1) = 0
                refusals(2) = 1
                refusals(3) = 0
                lostOrders() = 0
                """);
        Run.sentence("Hours", "if it is 3 then, the officer is dismissed.", Rows.LINE + """
                2 x issue(0, 1, 51)
                passHours(1) = 0
                refusals(1) = 2
                isInNavy(1) = true
                issue(0, 1, 51)
                passHours(1) = 0
                isInNavy(1) = false
                superior(2) = 0
                officerCount() = 4
                appointedCount() = 5
                refusedOrders() = 3
                lostOrders() = 0
                """);
        Run.sentence("Hours", "if it is 3 then, the officer is dismissed. (an order that it held before has gone on)",
                Rows.LINE + """
                issue(1, 2, 40)
                issue(1, 3, 10)
                3 x issue(0, 1, 51)
                passHours(1) = 1
                isInNavy(1) = false
                orderCount() = 1
                holder(0) = 2
                lostOrders() = 0
                """);
        Run.sentence("Hours", "if it is 3 then, the officer is dismissed. (an order that it still holds is lost)",
                Rows.LINE + """
                3 x issue(0, 1, 51)
                issue(1, 2, 40)
                issue(1, 3, 10)
                passHours(1) = 0
                isInNavy(1) = false
                orderCount() = 0
                executedOrders() = 0
                lostOrders() = 2
                """);
    }

    private static void hoursExecution() {
        Run.sentence("Hours", "the order is executed: it ends, and the loyalty of the target increases by 2, but not"
                + " above 100.", """
                appoint(0, 8, 97)
                appoint(0, 8, 98)
                appoint(0, 8, 99)
                appoint(0, 8, 100)
                appoint(0, 8, 0)
                issue(0, 1, 5)
                issue(0, 2, 5)
                issue(0, 3, 5)
                issue(0, 4, 5)
                issue(0, 5, 0)
                passHours(1) = 5
                orderCount() = 0
                loyalty(1) = 99
                loyalty(2) = 100
                loyalty(3) = 100
                loyalty(4) = 100
                loyalty(5) = 2
                """);
        Run.sentence("Hours", "the loyalty of the target increases (and of nobody else on the way)", Rows.LINE + """
                issue(0, 3, 30)
                passHours(3) = 1
                loyalty(0) = 100
                loyalty(1) = 50
                loyalty(2) = 40
                loyalty(3) = 32
                """);
    }

    private static void orderQueries() {
        Run.sentence("30", "Returns the number, 0 to 6.", Rows.LINE + """
                orderCount() = 0
                issue(0, 3, 10)
                orderCount() = 1
                4 x issue(0, 3, 10)
                orderCount() = 5
                issue(0, 3, 10)
                orderCount() = 6
                issue(0, 3, 10) throws.UnsupportedOperationException
                orderCount() = 6
                passHours(3) = 6
                orderCount() = 0
                """);
        for (String promise : new String[] {"31 holder", "32 target", "33 severity"}) {
            String method = promise.substring(3);
            Run.sentence(promise.substring(0, 2), "Throws IndexOutOfBoundsException if there is no such order",
                    Rows.LINE + method + "(0)" + Rows.INDEX + "\nissue(0, 3, 10)\nissue(1, 3, 10)\n"
                    + Rows.each(method + "(%)" + Rows.INDEX, "MIN", -256, -1, 2, 5, 6, 256, 65536, "MAX")
                    + method + "(0)\n" + method + "(1)\n");
            Run.sentence(promise.substring(0, 2), "if there is no such order (of six, and after they ended)",
                    Rows.LINE + "6 x issue(0, 3, 10)\n" + method + "(0)\n" + method + "(5)\n"
                    + method + "(6)" + Rows.INDEX + "\npassHours(3) = 6\n" + method + "(0)" + Rows.INDEX
                    + "\n" + method + "(5)" + Rows.INDEX);
        }
        Run.sentence("32", "Returns the target of an order, which may have been dismissed.", Rows.LINE + """
                issue(0, 3, 10)
                dismiss(3)
                target(0) = 3
                holder(0) = 0
                passHours(1)
                target(0) throws.IndexOutOfBoundsException
                """);
    }

    private static void sums() {
        Run.sentence("34", "Returns the number of orders that were executed so far. (refused and lost ones don't"
                + " count)", Rows.LINE + """
                executedOrders() = 0
                issue(0, 1, 50)
                executedOrders() = 0
                passHours(1)
                executedOrders() = 1
                issue(0, 1, 100)
                issue(1, 2, 1)
                dismiss(1)
                passHours(1)
                executedOrders() = 1
                6 x issue(0, 4, 1)
                passHours(1)
                executedOrders() = 7
                """);
        Run.sentence("35", "Returns the number of orders that were refused so far. (executed and lost ones don't"
                + " count)", Rows.LINE + """
                refusedOrders() = 0
                issue(0, 1, 51)
                refusedOrders() = 0
                passHours(1)
                refusedOrders() = 1
                issue(0, 1, 50)
                issue(0, 2, 1)
                dismiss(2)
                passHours(1)
                refusedOrders() = 1
                2 x issue(0, 1, 100)
                passHours(1)
                refusedOrders() = 3
                """);
        Run.sentence("36", "Returns the number of orders that were lost so far. (in an hour and by a dismissal)",
                Rows.LINE + """
                lostOrders() = 0
                issue(1, 2, 1)
                issue(0, 3, 1)
                dismiss(1)
                lostOrders() = 1
                dismiss(3)
                lostOrders() = 1
                passHours(1)
                lostOrders() = 2
                issue(0, 2, 100)
                issue(0, 4, 1)
                passHours(1)
                lostOrders() = 2
                """);
    }

    private static void executedShare() {
        Run.sentence("42", "Throws ArithmeticException if no order has ended", Rows.LINE + """
                executedShare() throws.ArithmeticException
                issue(0, 3, 1)
                executedShare() throws.ArithmeticException
                passHours(2)
                executedShare() throws.ArithmeticException
                passHours(1)
                executedShare() = 1.0
                undo()
                executedShare() throws.ArithmeticException
                """);
        Run.sentence("42", "Returns the share of executed orders among all orders that have ended (an end by a refusal"
                + " or a loss alone)", Rows.LINE + """
                issue(0, 1, 51)
                passHours(1)
                executedShare() = 0.0
                undo()
                issue(1, 2, 1)
                dismiss(1)
                executedShare() = 0.0
                """);
        Run.sentence("42", "both numbers converted to float.", Rows.LINE + """
                issue(0, 1, 50)
                passHours(1)
                executedShare() = 1.0
                issue(0, 1, 53)
                passHours(1)
                executedShare() = 0.5
                issue(1, 3, 1)
                dismiss(1)
                """ + "executedShare() = " + 1.0f / 3.0f + "\nissue(0, 4, 1)\npassHours(1)\nexecutedShare() = 0.5\n"
                + "3 x issue(0, 4, 1)\npassHours(1)\nexecutedShare() = " + 5.0f / 7.0f);
    }

    public static void main(String[] args) {
        termOrders();
        issue();
        passHours();
        hoursVisits();
        hoursLost();
        hoursSteps();
        hoursRefusals();
        hoursExecution();
        orderQueries();
        sums();
        executedShare();
        Run.end("OrderTests");
    }
}
