/** Promises 6, 7, 30 to 36 and 42: orders and the hours that carry them down. */
public final class OrderTests {
    private OrderTests() {
    }

    /** 0(1(2(3)),4) with the loyalties 100 50 40 30 99. */
    private static CommandChain sample() {
        CommandChain x = new CommandChain();
        x.appoint(0, 8, 50);
        x.appoint(1, 7, 40);
        x.appoint(2, 6, 30);
        x.appoint(0, 8, 99);
        return x;
    }

    private static void promise6Issue() {
        CommandChain x = sample();
        for (int bad : new int[] {-1, 5, 12, Integer.MIN_VALUE, Integer.MAX_VALUE}) {
            Check.fails(x, "issue(" + bad + ", 1, 101)", Check.INDEX, () -> x.issue(bad, 1, 101));
            Check.fails(x, "issue(1, " + bad + ", 101)", Check.INDEX, () -> x.issue(1, bad, 101));
        }
        for (int bad : new int[] {-1, 101, Integer.MIN_VALUE, Integer.MAX_VALUE}) {
            Check.fails(x, "issue(1, 0, " + bad + ")", Check.ARGUMENT, () -> x.issue(1, 0, bad));
        }
        Check.fails(x, "issue(1, 0, 5)", Check.STATE, () -> x.issue(1, 0, 5));
        Check.fails(x, "issue(1, 1, 5)", Check.STATE, () -> x.issue(1, 1, 5));
        Check.fails(x, "issue(1, 4, 5)", Check.STATE, () -> x.issue(1, 4, 5));
        Check.is("issue(0, 3, 0)", x.issue(0, 3, 0), 0);
        Check.is("issue(1, 3, 100)", x.issue(1, 3, 100), 1);
        for (int i = 2; i < 6; i++) {
            Check.is("issue number " + i, x.issue(0, 1, i), i);
        }
        Check.fails(x, "issue the 7th", Check.UNSUPPORTED, () -> x.issue(0, 1, 1));
        Check.fails(x, "issue the 7th upwards", Check.STATE, () -> x.issue(1, 0, 1));
        x.dismiss(3);
        Check.fails(x, "issue to a dismissed one", Check.INDEX, () -> x.issue(0, 3, 1));
        Check.fails(x, "issue by a dismissed one", Check.INDEX, () -> x.issue(3, 0, 1));
    }

    private static void promise7Arguments() {
        CommandChain x = sample();
        for (int bad : new int[] {0, -1, 25, Integer.MIN_VALUE, Integer.MAX_VALUE}) {
            Check.fails(x, "passHours(" + bad + ")", Check.ARGUMENT, () -> x.passHours(bad));
        }
        Check.is("passHours(1)", x.passHours(1), 0);
        Check.is("passHours(24)", x.passHours(24), 0);
        Check.is("hour", x.hour(), 25);
    }

    private static void promise7Execution() {
        CommandChain x = sample();
        x.issue(0, 3, 30);
        Check.is("the first hour", x.passHours(1), 0);
        Check.is("holder after it", x.holder(0), 1);
        Check.is("the second hour", x.passHours(1), 0);
        Check.is("holder after it", x.holder(0), 2);
        Check.is("the third hour", x.passHours(1), 1);
        Check.is("orders then", x.orderCount(), 0);
        Check.is("loyalty of the target", x.loyalty(3), 32);
        Check.is("loyalty on the way", x.loyalty(2), 40);
        x.issue(0, 4, 99);
        x.issue(0, 4, 100);
        Check.is("two orders to the loyal one", x.passHours(1), 2);
        Check.is("its loyalty has a limit", x.loyalty(4), 100);
        Check.is("executedOrders", x.executedOrders(), 3);
    }

    private static void promise7Refusal() {
        CommandChain x = sample();
        x.issue(0, 3, 41);
        x.issue(0, 1, 51);
        x.issue(0, 1, 50);
        Check.is("the first hour", x.passHours(1), 1);
        Check.is("refusals(1)", x.refusals(1), 1);
        Check.is("loyalty(1)", x.loyalty(1), 52);
        Check.is("the indices moved down", x.severity(0), 41);
        Check.is("orders left", x.orderCount(), 1);
        x.passHours(1);
        Check.is("refusals(2)", x.refusals(2), 1);
        Check.is("refusedOrders", x.refusedOrders(), 2);
        Check.is("orders left then", x.orderCount(), 0);
    }

    private static void promise7ThirdRefusal() {
        CommandChain x = sample();
        x.issue(0, 3, 50);
        x.passHours(1);
        Check.is("1 holds the order", x.holder(0), 1);
        x.issue(0, 1, 60);
        x.issue(0, 1, 60);
        x.passHours(1);
        Check.is("2 refused it", x.refusals(2), 1);
        Check.is("1 refused twice", x.refusals(1), 2);
        x.issue(1, 2, 5);
        x.issue(1, 3, 7);
        x.issue(0, 1, 60);
        x.issue(1, 2, 6);
        x.issue(0, 2, 9);
        Check.is("the hour of the third refusal", x.passHours(1), 2);
        Check.is("isInNavy(1)", x.isInNavy(1), false);
        Check.is("superior(2)", x.superior(2), 0);
        Check.is("refusedOrders", x.refusedOrders(), 4);
        Check.is("the order that 1 still held is lost", x.lostOrders(), 1);
        Check.is("executedOrders", x.executedOrders(), 2);
        Check.is("one order left", x.orderCount(), 1);
        Check.is("it has gone on to 2", x.holder(0), 2);
        Check.is("loyalty(2)", x.loyalty(2), 44);
        Check.is("its way ends", x.passHours(1), 1);
    }

    private static void refusalLosesOrdersOnBothSides() {
        CommandChain x = sample();
        x.issue(0, 1, 60);
        x.issue(0, 1, 60);
        x.passHours(1);
        x.issue(0, 3, 1);
        x.issue(0, 4, 100);
        x.issue(0, 1, 60);
        x.issue(0, 2, 3);
        x.issue(0, 4, 5);
        x.passHours(1);
        // 0>3 went to 1 first and is lost with 1; 4 refused; 0>2 was visited after 1 left.
        Check.is("lostOrders", x.lostOrders(), 1);
        Check.is("refusedOrders", x.refusedOrders(), 4);
        Check.is("executedOrders", x.executedOrders(), 2);
        Check.is("orders left", x.orderCount(), 0);
        Check.is("loyalty(2)", x.loyalty(2), 42);
        Check.is("loyalty(4)", x.loyalty(4), 100);
    }

    private static void eachOrderIsVisitedOnce() {
        CommandChain x = sample();
        x.issue(0, 1, 51);
        x.issue(0, 3, 1);
        x.issue(0, 4, 1);
        x.issue(0, 3, 2);
        x.passHours(1);
        Check.is("orders left", x.orderCount(), 2);
        Check.is("holder(0)", x.holder(0), 1);
        Check.is("holder(1)", x.holder(1), 1);
        Check.is("severity(0)", x.severity(0), 1);
        Check.is("severity(1)", x.severity(1), 2);
    }

    private static void sixOrdersAtOnce() {
        CommandChain x = sample();
        x.issue(0, 4, 1);
        for (int i = 1; i < 6; i++) {
            x.issue(0, 3, i);
        }
        Check.is("the first of six is executed", x.passHours(1), 1);
        Check.is("orders left", x.orderCount(), 5);
        for (int i = 0; i < 5; i++) {
            Check.is("severity(" + i + ")", x.severity(i), i + 1);
            Check.is("holder(" + i + ")", x.holder(i), 1);
        }
        Check.is("the others are executed", x.passHours(24), 5);
        Check.is("loyalty(3)", x.loyalty(3), 40);
    }

    private static void promise7Lost() {
        CommandChain x = sample();
        x.issue(0, 3, 1);
        x.issue(1, 3, 2);
        x.issue(1, 2, 3);
        x.transfer(3, 4);
        x.passHours(1);
        Check.is("an order whose target left the command", x.lostOrders(), 1);
        Check.is("another way to the target", x.holder(0), 4);
        Check.is("executedOrders", x.executedOrders(), 1);
        x.dismiss(3);
        Check.is("an order to a dismissed one is under way", x.orderCount(), 1);
        Check.is("its target", x.target(0), 3);
        x.passHours(1);
        Check.is("it is lost in the next hour", x.lostOrders(), 2);
        Check.is("orders left", x.orderCount(), 0);
    }

    private static void promises30To33Orders() {
        CommandChain x = sample();
        Check.is("orderCount", x.orderCount(), 0);
        x.issue(0, 3, 17);
        x.issue(1, 2, 100);
        Check.is("orderCount of two", x.orderCount(), 2);
        Check.is("holder(1)", x.holder(1), 1);
        Check.is("target(1)", x.target(1), 2);
        Check.is("severity(1)", x.severity(1), 100);
        Check.is("holder(0)", x.holder(0), 0);
        Check.is("target(0)", x.target(0), 3);
        Check.is("severity(0)", x.severity(0), 17);
        for (int bad : new int[] {-1, 2, 6, Integer.MIN_VALUE, Integer.MAX_VALUE}) {
            Check.fails(x, "holder(" + bad + ")", Check.INDEX, () -> x.holder(bad));
            Check.fails(x, "target(" + bad + ")", Check.INDEX, () -> x.target(bad));
            Check.fails(x, "severity(" + bad + ")", Check.INDEX, () -> x.severity(bad));
        }
    }

    private static void promises34To36And42Sums() {
        CommandChain x = sample();
        Check.fails(x, "executedShare of nothing", Check.ARITHMETIC, () -> x.executedShare());
        x.issue(0, 1, 1);
        Check.fails(x, "executedShare of an order under way", Check.ARITHMETIC, () -> x.executedShare());
        x.passHours(1);
        Check.is("executedShare of one", x.executedShare(), 1.0f);
        x.issue(0, 1, 100);
        x.issue(1, 2, 1);
        x.dismiss(1);
        Check.is("executedOrders", x.executedOrders(), 1);
        Check.is("refusedOrders", x.refusedOrders(), 0);
        Check.is("lostOrders", x.lostOrders(), 1);
        Check.is("executedShare of two", x.executedShare(), 0.5f);
        x.passHours(1);
        Check.is("lostOrders then", x.lostOrders(), 2);
        Check.is("executedShare of three", x.executedShare(), 1.0f / 3.0f);
        x.issue(0, 4, 100);
        x.passHours(1);
        Check.is("refusedOrders then", x.refusedOrders(), 1);
        Check.is("executedShare of four", x.executedShare(), 0.25f);
        CommandChain y = sample();
        y.issue(0, 4, 100);
        y.passHours(1);
        Check.is("executedShare of a refusal", y.executedShare(), 0.0f);
    }

    public static void main(String[] args) {
        promise6Issue();
        promise7Arguments();
        promise7Execution();
        promise7Refusal();
        promise7ThirdRefusal();
        refusalLosesOrdersOnBothSides();
        eachOrderIsVisitedOnce();
        sixOrdersAtOnce();
        promise7Lost();
        promises30To33Orders();
        promises34To36And42Sums();
        Check.end("OrderTests");
    }
}
