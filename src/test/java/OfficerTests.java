/** Promises 1 to 5, 10 to 29, 40, 41 and 43: the officers and their tree. */
public final class OfficerTests {
    private OfficerTests() {
    }

    /** 0(1(3(4,5)),2): ranks 9 6 5 4 2 3, loyalties 100 60 30 90 50 10. */
    private static CommandChain sample() {
        CommandChain x = new CommandChain();
        x.appoint(0, 6, 60);
        x.appoint(0, 5, 30);
        x.appoint(1, 4, 90);
        x.appoint(3, 2, 50);
        x.appoint(3, 3, 10);
        return x;
    }

    private static void promise1NewObject() {
        CommandChain x = new CommandChain();
        Check.is("new hour", x.hour(), 0);
        Check.is("new officerCount", x.officerCount(), 1);
        Check.is("new appointedCount", x.appointedCount(), 1);
        Check.is("new rank(0)", x.rank(0), 9);
        Check.is("new loyalty(0)", x.loyalty(0), 100);
        Check.is("new refusals(0)", x.refusals(0), 0);
        Check.is("new flagCount", x.flagCount(), 0);
        Check.is("new orderCount", x.orderCount(), 0);
        Check.is("new undoCount", x.undoCount(), 0);
        Check.is("new sums", x.executedOrders() + x.refusedOrders() + x.lostOrders(), 0);
        Check.is("new output", Check.output(x), "");
        Check.is("new greatestDepth", x.greatestDepth(), 0);
        Check.is("new subordinates(0)", x.subordinates(0), 0);
        Check.is("new commandSize(0)", x.commandSize(0), 1);
        Check.is("new commandSizeByCounting(0)", x.commandSizeByCounting(0), 1);
        Check.is("new depthFromTop(0)", x.depthFromTop(0), 0);
        Check.is("new officerByRank(0)", x.officerByRank(0), 0);
        Check.is("new isConsistent", x.isConsistent(), true);
        for (int i = 1; i < 12; i++) {
            Check.is("new isInNavy", x.isInNavy(i), false);
        }
        CommandChain other = new CommandChain();
        x.appoint(0, 1, 1);
        Check.is("another object's officers", other.officerCount(), 1);
    }

    private static void promise2Appoint() {
        CommandChain x = new CommandChain();
        for (int bad : new int[] {-1, 1, 12, Integer.MIN_VALUE, Integer.MAX_VALUE}) {
            Check.fails(x, "appoint(" + bad + ", 0, -1)", Check.INDEX, () -> x.appoint(bad, 0, -1));
        }
        for (int bad : new int[] {9, 10, 0, -1, Integer.MIN_VALUE, Integer.MAX_VALUE}) {
            Check.fails(x, "appoint(0, " + bad + ", 5)", Check.ARGUMENT, () -> x.appoint(0, bad, 5));
        }
        for (int bad : new int[] {101, -1, Integer.MIN_VALUE, Integer.MAX_VALUE}) {
            Check.fails(x, "appoint(0, 5, " + bad + ")", Check.ARGUMENT, () -> x.appoint(0, 5, bad));
        }
        Check.is("appoint(0, 8, 100)", x.appoint(0, 8, 100), 1);
        Check.is("appoint(1, 1, 0)", x.appoint(1, 1, 0), 2);
        Check.is("its rank", x.rank(2), 1);
        Check.is("its loyalty", x.loyalty(2), 0);
        Check.is("its refusals", x.refusals(2), 0);
        Check.is("its superior", x.superior(2), 1);
        Check.fails(x, "appoint(2, 1, 1) below rank 1", Check.ARGUMENT, () -> x.appoint(2, 1, 1));
        Check.fails(x, "appoint(1, 8, 1) at the same rank", Check.ARGUMENT, () -> x.appoint(1, 8, 1));
        x.dismiss(2);
        Check.fails(x, "appoint below a dismissed one", Check.INDEX, () -> x.appoint(2, 1, 1));
        for (int i = 3; i < 12; i++) {
            Check.is("appoint number " + i, x.appoint(0, 2, i), i);
        }
        Check.fails(x, "appoint the 13th", Check.STATE, () -> x.appoint(0, 8, 1));
        Check.fails(x, "appoint the 13th badly", Check.ARGUMENT, () -> x.appoint(0, 9, 1));
        x.dismiss(5);
        Check.fails(x, "appoint the 13th after a dismissal", Check.STATE, () -> x.appoint(0, 8, 1));
    }

    private static void promise3Promote() {
        CommandChain x = sample();
        for (int bad : new int[] {-1, 6, 12, Integer.MIN_VALUE, Integer.MAX_VALUE}) {
            Check.fails(x, "promote(" + bad + ")", Check.INDEX, () -> x.promote(bad));
        }
        Check.fails(x, "promote the admiral", Check.STATE, () -> x.promote(0));
        Check.fails(x, "promote(5) to the rank of 3", Check.STATE, () -> x.promote(5));
        Check.is("promote(4)", x.promote(4), 3);
        Check.is("rank(4)", x.rank(4), 3);
        Check.fails(x, "promote(4) again", Check.STATE, () -> x.promote(4));
        Check.is("promote(1)", x.promote(1), 7);
        Check.is("promote(1) again", x.promote(1), 8);
        Check.fails(x, "promote(1) to 9", Check.STATE, () -> x.promote(1));
        x.dismiss(2);
        Check.fails(x, "promote a dismissed one", Check.INDEX, () -> x.promote(2));
    }

    private static void promise4Transfer() {
        CommandChain x = sample();
        for (int bad : new int[] {-1, 6, 12, Integer.MIN_VALUE, Integer.MAX_VALUE}) {
            Check.fails(x, "transfer(" + bad + ", 0)", Check.INDEX, () -> x.transfer(bad, 0));
            Check.fails(x, "transfer(0, " + bad + ")", Check.INDEX, () -> x.transfer(0, bad));
        }
        Check.fails(x, "transfer(0, 1)", Check.ARGUMENT, () -> x.transfer(0, 1));
        Check.fails(x, "transfer(0, 0)", Check.ARGUMENT, () -> x.transfer(0, 0));
        Check.fails(x, "transfer(3, 3)", Check.ARGUMENT, () -> x.transfer(3, 3));
        Check.fails(x, "transfer(1, 5)", Check.UNSUPPORTED, () -> x.transfer(1, 5));
        Check.fails(x, "transfer(1, 3)", Check.UNSUPPORTED, () -> x.transfer(1, 3));
        Check.fails(x, "transfer(3, 4)", Check.UNSUPPORTED, () -> x.transfer(3, 4));
        Check.fails(x, "transfer(1, 2) to a lower rank", Check.STATE, () -> x.transfer(1, 2));
        Check.is("transfer(3, 2)", x.transfer(3, 2), 4);
        Check.is("the tree then", Check.written(x, 0), "0(1,2(3(4,5)))");
        Check.is("transfer(3, 2) again", x.transfer(3, 2), 4);
        Check.is("transfer(2, 1)", x.transfer(2, 1), 5);
        Check.is("transfer(5, 0)", x.transfer(5, 0), 6);
        Check.is("the tree at last", Check.written(x, 0), "0(1(2(3(4))),5)");
        x.promote(2 + 2);
        Check.fails(x, "transfer(4, 5) at the same rank", Check.STATE, () -> x.transfer(4, 5));
        x.dismiss(5);
        Check.fails(x, "transfer a dismissed one", Check.INDEX, () -> x.transfer(5, 0));
        Check.fails(x, "transfer to a dismissed one", Check.INDEX, () -> x.transfer(4, 5));
    }

    private static void promise5Dismiss() {
        CommandChain x = sample();
        for (int bad : new int[] {-1, 6, 12, Integer.MIN_VALUE, Integer.MAX_VALUE}) {
            Check.fails(x, "dismiss(" + bad + ")", Check.INDEX, () -> x.dismiss(bad));
        }
        Check.fails(x, "dismiss(0)", Check.ARGUMENT, () -> x.dismiss(0));
        x.issue(3, 5, 1);
        x.issue(1, 4, 2);
        x.issue(3, 4, 3);
        x.issue(0, 3, 4);
        Check.is("dismiss(3)", x.dismiss(3), 2);
        Check.is("superior(4)", x.superior(4), 1);
        Check.is("superior(5)", x.superior(5), 1);
        Check.is("isInNavy(3)", x.isInNavy(3), false);
        Check.is("orders it held are lost", x.lostOrders(), 2);
        Check.is("orders left", x.orderCount(), 2);
        Check.is("the first one left", x.severity(0), 2);
        Check.is("the second one left", x.severity(1), 4);
        Check.is("its target", x.target(1), 3);
        Check.fails(x, "dismiss(3) again", Check.INDEX, () -> x.dismiss(3));
        Check.is("dismiss(1)", x.dismiss(1), 2);
        Check.is("superior(4) then", x.superior(4), 0);
        Check.is("dismiss(2)", x.dismiss(2), 0);
        Check.is("the tree at last", Check.written(x, 0), "0(4,5)");
        Check.is("appoint after dismissals", x.appoint(0, 1, 1), 6);
    }

    private static void promises10To18Queries() {
        CommandChain x = sample();
        x.passHours(24);
        x.passHours(1);
        Check.is("hour", x.hour(), 25);
        Check.is("officerCount", x.officerCount(), 6);
        x.dismiss(3);
        Check.is("officerCount after dismiss", x.officerCount(), 5);
        Check.is("appointedCount after dismiss", x.appointedCount(), 6);
        int[] present = {0, 1, 2, 4, 5};
        for (int officer : present) {
            Check.is("isInNavy(" + officer + ")", x.isInNavy(officer), true);
        }
        for (int absent : new int[] {3, 6, 11, 12, -1, Integer.MIN_VALUE, Integer.MAX_VALUE}) {
            Check.is("isInNavy(" + absent + ")", x.isInNavy(absent), false);
            Check.fails(x, "rank(" + absent + ")", Check.INDEX, () -> x.rank(absent));
            Check.fails(x, "loyalty(" + absent + ")", Check.INDEX, () -> x.loyalty(absent));
            Check.fails(x, "refusals(" + absent + ")", Check.INDEX, () -> x.refusals(absent));
            Check.fails(x, "superior(" + absent + ")", Check.INDEX, () -> x.superior(absent));
            Check.fails(x, "subordinates(" + absent + ")", Check.INDEX, () -> x.subordinates(absent));
        }
        int[] ranks = {9, 6, 5, 2, 3};
        int[] loyalties = {100, 60, 30, 50, 10};
        int[] superiors = {-1, 0, 0, 1, 1};
        int[] subordinates = {2, 2, 0, 0, 0};
        for (int i = 0; i < present.length; i++) {
            Check.is("rank(" + present[i] + ")", x.rank(present[i]), ranks[i]);
            Check.is("loyalty(" + present[i] + ")", x.loyalty(present[i]), loyalties[i]);
            Check.is("refusals(" + present[i] + ")", x.refusals(present[i]), 0);
            Check.is("subordinates(" + present[i] + ")", x.subordinates(present[i]), subordinates[i]);
            if (i > 0) {
                Check.is("superior(" + present[i] + ")", x.superior(present[i]), superiors[i]);
            }
        }
        Check.fails(x, "superior(0)", Check.ELEMENT, () -> x.superior(0));
        x.issue(0, 2, 31);
        x.issue(0, 2, 31);
        x.passHours(1);
        Check.is("refusals(2) after two", x.refusals(2), 2);
    }

    private static void promises19To25Tree() {
        CommandChain x = sample();
        int[] depths = {0, 1, 1, 2, 3, 3};
        int[] sizes = {6, 4, 1, 3, 1, 1};
        for (int i = 0; i < 6; i++) {
            Check.is("depth(" + i + ")", x.depth(i), depths[i]);
            Check.is("depthFromTop(" + i + ")", x.depthFromTop(i), depths[i]);
            Check.is("commandSize(" + i + ")", x.commandSize(i), sizes[i]);
            Check.is("commandSizeByCounting(" + i + ")", x.commandSizeByCounting(i), sizes[i]);
        }
        Check.is("greatestDepth", x.greatestDepth(), 3);
        String above = "";
        for (int i = 0; i < 6; i++) {
            for (int j = 0; j < 6; j++) {
                above += x.isAbove(i, j) ? "1" : "0";
            }
            above += " ";
        }
        Check.is("isAbove", above, "011111 000111 000000 000011 000000 000000 ");
        int[][] common = {{4, 5, 3}, {4, 2, 0}, {4, 4, 4}, {3, 5, 3}, {5, 3, 3}, {0, 5, 0}, {1, 4, 1}, {0, 0, 0}};
        for (int[] row : common) {
            Check.is("commonSuperior(" + row[0] + ", " + row[1] + ")", x.commonSuperior(row[0], row[1]), row[2]);
        }
        x.dismiss(4);
        x.dismiss(5);
        Check.is("greatestDepth then", x.greatestDepth(), 2);
        Check.is("commandSize(3) then", x.commandSize(3), 1);
        Check.is("commandSizeByCounting(0) then", x.commandSizeByCounting(0), 4);
        for (int bad : new int[] {4, 6, 12, -1, Integer.MIN_VALUE, Integer.MAX_VALUE}) {
            Check.fails(x, "depth(" + bad + ")", Check.INDEX, () -> x.depth(bad));
            Check.fails(x, "depthFromTop(" + bad + ")", Check.INDEX, () -> x.depthFromTop(bad));
            Check.fails(x, "commandSize(" + bad + ")", Check.INDEX, () -> x.commandSize(bad));
            Check.fails(x, "commandSizeByCounting(" + bad + ")", Check.INDEX, () -> x.commandSizeByCounting(bad));
            Check.fails(x, "isAbove(" + bad + ", 0)", Check.INDEX, () -> x.isAbove(bad, 0));
            Check.fails(x, "isAbove(0, " + bad + ")", Check.INDEX, () -> x.isAbove(0, bad));
            Check.fails(x, "commonSuperior(" + bad + ", 0)", Check.INDEX, () -> x.commonSuperior(bad, 0));
            Check.fails(x, "commonSuperior(0, " + bad + ")", Check.INDEX, () -> x.commonSuperior(0, bad));
        }
    }

    private static void longestChain() {
        CommandChain x = new CommandChain();
        for (int i = 1; i <= 8; i++) {
            x.appoint(i - 1, 9 - i, 100 - i);
        }
        Check.is("the longest chain", x.greatestDepth(), 8);
        Check.is("its depthFromTop", x.depthFromTop(8), 8);
        Check.is("its commandSize", x.commandSize(0), 9);
        Check.is("its commonSuperior", x.commonSuperior(8, 3), 3);
        Check.is("its hoursFor", x.hoursFor(0, 8), 8);
        Check.is("its greatestSeverity", x.greatestSeverity(0, 8), 92);
        Check.is("its command", Check.written(x, 0), "0(1(2(3(4(5(6(7(8))))))))");
        x.issue(0, 8, 92);
        Check.is("its order", x.passHours(7), 0);
        Check.is("its order at last", x.passHours(1), 1);
    }

    private static void promises26To29Predictions() {
        CommandChain x = sample();
        Check.is("hoursFor(0, 4)", x.hoursFor(0, 4), 3);
        Check.is("hoursFor(3, 5)", x.hoursFor(3, 5), 1);
        int[][] greatest = {{0, 4, 50}, {0, 5, 10}, {0, 3, 60}, {1, 3, 90}, {1, 4, 50}, {0, 1, 60}};
        for (int[] row : greatest) {
            String way = "(" + row[0] + ", " + row[1] + ")";
            Check.is("greatestSeverity" + way, x.greatestSeverity(row[0], row[1]), row[2]);
            Check.is("greatestSeverityByTrial" + way, x.greatestSeverityByTrial(row[0], row[1]), row[2]);
        }
        Check.is("firstRefusal(0, 4, 51)", x.firstRefusal(0, 4, 51), 4);
        Check.is("firstRefusal(0, 4, 61)", x.firstRefusal(0, 4, 61), 1);
        Check.is("firstRefusal(0, 4, 100)", x.firstRefusal(0, 4, 100), 1);
        Check.is("firstRefusal(1, 5, 100)", x.firstRefusal(1, 5, 100), 3);
        Check.is("firstRefusal(1, 5, 11)", x.firstRefusal(1, 5, 11), 5);
        Check.fails(x, "firstRefusal(0, 4, 50)", Check.ELEMENT, () -> x.firstRefusal(0, 4, 50));
        Check.fails(x, "firstRefusal(0, 5, 0)", Check.ELEMENT, () -> x.firstRefusal(0, 5, 0));
        for (int bad : new int[] {-1, 101, Integer.MIN_VALUE, Integer.MAX_VALUE}) {
            Check.fails(x, "firstRefusal(4, 0, " + bad + ")", Check.ARGUMENT, () -> x.firstRefusal(4, 0, bad));
        }
        int[][] noWays = {{4, 0}, {0, 0}, {2, 4}, {4, 5}, {3, 1}};
        for (int[] row : noWays) {
            int from = row[0];
            int to = row[1];
            String way = "(" + from + ", " + to + ")";
            Check.fails(x, "hoursFor" + way, Check.STATE, () -> x.hoursFor(from, to));
            Check.fails(x, "greatestSeverity" + way, Check.STATE, () -> x.greatestSeverity(from, to));
            Check.fails(x, "greatestSeverityByTrial" + way, Check.STATE, () -> x.greatestSeverityByTrial(from, to));
            Check.fails(x, "firstRefusal" + way, Check.STATE, () -> x.firstRefusal(from, to, 5));
        }
        for (int bad : new int[] {6, 12, -1, Integer.MIN_VALUE, Integer.MAX_VALUE}) {
            Check.fails(x, "hoursFor(0, " + bad + ")", Check.INDEX, () -> x.hoursFor(0, bad));
            Check.fails(x, "hoursFor(" + bad + ", 0)", Check.INDEX, () -> x.hoursFor(bad, 0));
            Check.fails(x, "greatestSeverity(0, " + bad + ")", Check.INDEX, () -> x.greatestSeverity(0, bad));
            Check.fails(x, "greatestSeverity(" + bad + ", 0)", Check.INDEX, () -> x.greatestSeverity(bad, 0));
            Check.fails(x, "greatestSeverityByTrial(0, bad)", Check.INDEX, () -> x.greatestSeverityByTrial(0, bad));
            Check.fails(x, "greatestSeverityByTrial(bad, 0)", Check.INDEX, () -> x.greatestSeverityByTrial(bad, 0));
            Check.fails(x, "firstRefusal(0, " + bad + ", -1)", Check.INDEX, () -> x.firstRefusal(0, bad, -1));
            Check.fails(x, "firstRefusal(" + bad + ", 0, -1)", Check.INDEX, () -> x.firstRefusal(bad, 0, -1));
        }
        CommandChain ends = new CommandChain();
        ends.appoint(0, 8, 100);
        ends.appoint(0, 8, 0);
        Check.is("greatestSeverity of full loyalty", ends.greatestSeverity(0, 1), 100);
        Check.is("by trial", ends.greatestSeverityByTrial(0, 1), 100);
        Check.is("greatestSeverity of no loyalty", ends.greatestSeverity(0, 2), 0);
        Check.is("by trial", ends.greatestSeverityByTrial(0, 2), 0);
    }

    private static void promise40OfficerByRank() {
        CommandChain x = new CommandChain();
        x.appoint(0, 3, 50);
        x.appoint(0, 3, 60);
        x.appoint(0, 3, 50);
        x.appoint(0, 7, 0);
        x.appoint(0, 2, 100);
        int[] order = {0, 4, 2, 1, 3, 5};
        for (int place = 0; place < order.length; place++) {
            Check.is("officerByRank(" + place + ")", x.officerByRank(place), order[place]);
        }
        for (int bad : new int[] {-1, 6, 12, Integer.MIN_VALUE, Integer.MAX_VALUE}) {
            Check.fails(x, "officerByRank(" + bad + ")", Check.ELEMENT, () -> x.officerByRank(bad));
        }
        x.dismiss(4);
        Check.is("officerByRank(1) then", x.officerByRank(1), 2);
        Check.fails(x, "officerByRank(5)", Check.ELEMENT, () -> x.officerByRank(5));
    }

    private static void theFullNavy() {
        CommandChain x = new CommandChain();
        for (int i = 1; i < 12; i++) {
            x.appoint(i < 6 ? 0 : i - 5, i < 6 ? 5 : i < 11 ? 4 : 3, 50 + i);
        }
        Check.is("officerCount of the full navy", x.officerCount(), 12);
        Check.is("appointedCount of the full navy", x.appointedCount(), 12);
        Check.is("the full navy", Check.written(x, 0), "0(1(6(11)),2(7),3(8),4(9),5(10))");
        int[] order = {0, 5, 4, 3, 2, 1, 10, 9, 8, 7, 6, 11};
        for (int place = 0; place < 12; place++) {
            Check.is("place " + place + " of the full navy", x.officerByRank(place), order[place]);
        }
        Check.is("its mean loyalty", x.meanLoyalty(), 716.0 / 12.0);
        Check.is("its commandSize", x.commandSize(0), 12);
        Check.is("its commandSizeByCounting", x.commandSizeByCounting(0), 12);
        Check.is("its isConsistent", x.isConsistent(), true);
        Check.fails(x, "a place behind it", Check.ELEMENT, () -> x.officerByRank(12));
    }

    private static void promises41And43Sums() {
        CommandChain x = new CommandChain();
        Check.is("meanLoyalty of the admiral", x.meanLoyalty(), 100.0);
        x.appoint(0, 3, 0);
        Check.is("meanLoyalty of two", x.meanLoyalty(), 50.0);
        x.appoint(0, 3, 1);
        Check.is("meanLoyalty of three", x.meanLoyalty(), 101.0 / 3.0);
        x.dismiss(1);
        Check.is("meanLoyalty after dismiss", x.meanLoyalty(), 50.5);
        Check.is("isConsistent", x.isConsistent(), true);
        CommandChain y = sample();
        y.transfer(3, 2);
        y.dismiss(1);
        Check.is("isConsistent after changes", y.isConsistent(), true);
        y.promote(4);
        Check.is("isConsistent after promote", y.isConsistent(), true);
    }

    public static void main(String[] args) {
        promise1NewObject();
        promise2Appoint();
        promise3Promote();
        promise4Transfer();
        promise5Dismiss();
        promises10To18Queries();
        promises19To25Tree();
        longestChain();
        promises26To29Predictions();
        promise40OfficerByRank();
        theFullNavy();
        promises41And43Sums();
        Check.end("OfficerTests");
    }
}
