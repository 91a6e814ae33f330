/** Promises 44 to 49: the input buffer, its commands, and the output. */
public final class TextTests {
    private TextTests() {
    }

    private static void promise44Feed() {
        CommandChain x = new CommandChain();
        for (int i = 1; i <= 60; i++) {
            Check.is("feed number " + i, x.feed((char) (i * 1000)), i);
        }
        Check.fails(x, "feed the 61st", Check.STATE, () -> x.feed('a'));
        Check.failsFreely("the full buffer", Check.ARGUMENT, () -> x.runCommands());
        Check.is("its error position", x.errorPosition(), 0);
        Check.is("feed after it", x.feed('a'), 1);
    }

    private static void promise45EachCommand() {
        CommandChain x = new CommandChain();
        Check.is("add", Check.run(x, "add 0 8 100"), 1);
        Check.is("two", Check.run(x, "add 00 7 05;add 1 6 010"), 2);
        Check.is("the tree", Check.written(x, 0), "0(1(3),2)");
        Check.is("loyalty(2)", x.loyalty(2), 5);
        Check.is("loyalty(3)", x.loyalty(3), 10);
        Check.is("move", Check.run(x, "move 3 2"), 1);
        Check.is("superior(3)", x.superior(3), 2);
        Check.is("order", Check.run(x, "order 0 1 100;order 00 02 6"), 2);
        Check.is("orderCount", x.orderCount(), 2);
        Check.is("severity(0)", x.severity(0), 100);
        Check.is("wait", Check.run(x, "wait"), 1);
        Check.is("hour", x.hour(), 1);
        Check.is("executedOrders", x.executedOrders(), 1);
        Check.is("refusals(2)", x.refusals(2), 1);
        Check.is("wait with numbers", Check.run(x, "wait 2;wait 24;wait 03"), 3);
        Check.is("hour then", x.hour(), 30);
        Check.is("flag", Check.run(x, "flag az 99;flag aa 0"), 2);
        Check.is("meaning(a, z)", x.meaning('a', 'z'), 99);
        Check.is("meaning(a, a)", x.meaning('a', 'a'), 0);
        Check.is("fire", Check.run(x, "fire 2"), 1);
        Check.is("the tree at last", Check.written(x, 0), "0(1,3)");
        Check.is("twelve commands", Check.run(x, "wait;wait;wait;wait;wait;wait;wait;wait;wait;wait;wait;wait"), 12);
        Check.is("hour at last", x.hour(), 42);
    }

    private static void promises45And46Malformed() {
        CommandChain fresh = new CommandChain();
        Check.fails(fresh, "errorPosition of none", Check.ELEMENT, () -> fresh.errorPosition());
        Object[][] texts = {
            {"", 0}, {" ", 0}, {";", 0}, {"x", 0}, {"Add 0 1 1", 0}, {"A", 0},
            {"a", 1}, {"ad", 2}, {"add", 3}, {"add ", 4}, {"add 0", 5}, {"add 0 ", 6}, {"add 0 5", 7},
            {"add 0 5 ", 8}, {"adx", 2}, {"addd", 3}, {"add  0", 4}, {"add x", 4}, {"add 000", 6},
            {"add 0 55", 7}, {"add 0 5 1000", 11}, {"add 0 5 10x", 10}, {"add 0 5 100 ", 11}, {"add -1 5 5", 4},
            {"m", 1}, {"move", 4}, {"move 1", 6}, {"move 1 ", 7}, {"move 1 234", 9}, {"move 123", 7}, {"mave", 1},
            {"f", 1}, {"fa", 1}, {"fi", 2}, {"fl", 2}, {"fir", 3}, {"firg", 3}, {"fia", 2}, {"fli", 2}, {"fire", 4},
            {"fire ", 5}, {"fire 123", 7}, {"fire 1 ", 6}, {"fire 1;", 7}, {"fire 1;;", 7}, {"fire 1; fire 2", 7},
            {"fire 1;x", 7}, {"fire 1;wai", 10},
            {"o", 1}, {"order", 5}, {"order 1 2", 9}, {"order 1 2 3456", 13}, {"order 123", 8}, {"order 1 234", 10},
            {"orders", 5}, {"flag", 4}, {"flag ", 5}, {"flag a", 6}, {"flag ab", 7}, {"flag ab ", 8},
            {"flag abc", 7}, {"flag  1", 5}, {"flag  ab 1", 5}, {"flag aB 1", 6}, {"flag A", 5}, {"flag a1", 6}, {"flag ab 100", 10}, {"flag {a", 5},
            {"flag a` 1", 6},
            {"w", 1}, {"wai", 3}, {"waits", 4}, {"wait ", 5}, {"wait x", 5}, {"wait 123", 7}, {"wait 1 ", 6},
            {"wait;", 5}, {";wait", 0}, {"wait  1", 5}, {"wait:", 4}, {"wait /", 5}, {"wait 1:", 6},
        };
        for (Object[] row : texts) {
            CommandChain x = new CommandChain();
            Check.feed(x, (String) row[0]);
            Check.failsFreely("running '" + row[0] + "'", Check.ARGUMENT, () -> x.runCommands());
            Check.is("errorPosition of '" + row[0] + "'", x.errorPosition(), row[1]);
            Check.is("the buffer after it", x.feed('w'), 1);
            Check.fails(x, "failedCommand of none", Check.ELEMENT, () -> x.failedCommand());
            Check.is("nothing recorded", x.undoCount(), 0);
        }
    }

    private static void malformedTextChangesNothing() {
        CommandChain x = new CommandChain();
        Check.feed(x, "add 0 5 5;wait;ad");
        Check.failsFreely("a text malformed at its end", Check.ARGUMENT, () -> x.runCommands());
        Check.is("officerCount", x.officerCount(), 1);
        Check.is("hour", x.hour(), 0);
        Check.is("errorPosition", x.errorPosition(), 17);
        Check.run(x, "wait");
        Check.is("errorPosition is kept", x.errorPosition(), 17);
        Check.feed(x, "fire 0");
        Check.failsFreely("a failing text", Check.UNSUPPORTED, () -> x.runCommands());
        Check.is("errorPosition is kept still", x.errorPosition(), 17);
        Check.feed(x, "wait wait");
        Check.failsFreely("another malformed text", Check.ARGUMENT, () -> x.runCommands());
        Check.is("the latest errorPosition", x.errorPosition(), 5);
        Check.is("failedCommand is kept", x.failedCommand(), 0);
        Check.feed(x, "wait;wait;wait;wait;wait;wait;wait;wait;wait;wait;wait;wait;");
        Check.failsFreely("a full buffer that ends too early", Check.ARGUMENT, () -> x.runCommands());
        Check.is("its errorPosition", x.errorPosition(), 60);
    }

    private static void promises45And47Failing() {
        CommandChain fresh = new CommandChain();
        Check.fails(fresh, "failedCommand of none", Check.ELEMENT, () -> fresh.failedCommand());
        Object[][] texts = {
            {"add 1 5 5", 0}, {"add 0 9 5", 0}, {"add 0 0 5", 0}, {"add 0 5 101", 0}, {"add 0 5 999", 0},
            {"add 99 5 5", 0}, {"fire 0", 0}, {"fire 1", 0}, {"move 0 0", 0}, {"wait 0", 0}, {"wait 25", 0},
            {"wait 99;add 1 1 1", 0}, {"add 0 5 5;add 1 4 4;move 1 2", 2}, {"add 0 5 5;add 0 4 4;move 1 2", 2},
            {"add 0 5 5;fire 1;fire 1", 2}, {"order 0 1 5", 0}, {"add 0 5 5;order 0 1 101", 1},
            {"add 0 5 5;order 1 0 5", 1}, {"flag aa 1;wait 3;wait 0", 2}, {"wait;wait;wait;wait;wait;fire 12", 5},
        };
        for (Object[] row : texts) {
            CommandChain x = new CommandChain();
            x.define('z', 'z', 9);
            String before = Check.picture(x).replaceAll("failed throws \\w+", "");
            Check.feed(x, (String) row[0]);
            Check.failsFreely("running '" + row[0] + "'", Check.UNSUPPORTED, () -> x.runCommands());
            Check.is("failedCommand of '" + row[0] + "'", x.failedCommand(), row[1]);
            Check.is("the state after it", Check.picture(x).replaceAll("failed \\d+", ""), before);
            Check.is("the buffer after it", x.feed('w'), 1);
            Check.fails(x, "errorPosition of none", Check.ELEMENT, () -> x.errorPosition());
        }
        CommandChain x = new CommandChain();
        Check.feed(x, "wait;fire 0");
        Check.failsFreely("failing", Check.UNSUPPORTED, () -> x.runCommands());
        Check.run(x, "wait");
        Check.is("failedCommand is kept", x.failedCommand(), 1);
        x.undo();
        Check.is("undo leaves it", x.failedCommand(), 1);
        Check.feed(x, "fire 0");
        Check.failsFreely("failing again", Check.UNSUPPORTED, () -> x.runCommands());
        Check.is("the latest failedCommand", x.failedCommand(), 0);
    }

    private static void limitsFailCommands() {
        CommandChain x = new CommandChain();
        for (int i = 0; i < 20; i++) {
            x.define('a', (char) ('a' + i), 1);
        }
        Check.feed(x, "flag aa 2;flag zz 1");
        Check.failsFreely("the 21st flag", Check.UNSUPPORTED, () -> x.runCommands());
        Check.is("its index", x.failedCommand(), 1);
        Check.is("meaning(a, a)", x.meaning('a', 'a'), 1);
        for (int i = 1; i < 12; i++) {
            x.appoint(0, 8, 50);
        }
        Check.feed(x, "wait;fire 11;add 0 1 1");
        Check.failsFreely("the 13th officer", Check.UNSUPPORTED, () -> x.runCommands());
        Check.is("its index", x.failedCommand(), 2);
        Check.is("11 is back", x.isInNavy(11), true);
        for (int i = 0; i < 5; i++) {
            x.issue(0, 1, 1);
        }
        Check.feed(x, "order 0 11 5;order 0 11 6");
        Check.failsFreely("the 7th order", Check.UNSUPPORTED, () -> x.runCommands());
        Check.is("its index", x.failedCommand(), 1);
        Check.is("orderCount", x.orderCount(), 5);
    }

    private static void promises48And49Output() {
        CommandChain x = new CommandChain();
        Check.fails(x, "outputChar(0) of nothing", Check.INDEX, () -> x.outputChar(0));
        x.appoint(0, 8, 1);
        x.appoint(0, 8, 1);
        x.appoint(1, 7, 1);
        x.appoint(1, 7, 1);
        Check.is("writeCommand(0)", x.writeCommand(0), 11);
        Check.is("the example", Check.output(x), "0(1(3,4),2)");
    }

    private static void outputOfSubtrees() {
        CommandChain x = new CommandChain();
        for (int i = 1; i < 12; i++) {
            x.appoint(i < 3 ? 0 : 1, i < 3 ? 8 : 7, 1);
        }
        Check.is("writeCommand(2)", x.writeCommand(2), 1);
        Check.is("a leaf", Check.output(x), "2");
        Check.is("writeCommand(11)", x.writeCommand(11), 2);
        Check.is("an index of two digits", Check.output(x), "11");
        Check.is("writeCommand(1)", x.writeCommand(1), 22);
        Check.is("a command", Check.output(x), "1(3,4,5,6,7,8,9,10,11)");
        x.transfer(2, 0);
        Check.is("outputChar(1)", x.outputChar(1), '(');
        for (int bad : new int[] {-1, 12, Integer.MIN_VALUE, Integer.MAX_VALUE}) {
            Check.fails(x, "writeCommand(" + bad + ")", Check.INDEX, () -> x.writeCommand(bad));
        }
        for (int bad : new int[] {-1, 22, 60, Integer.MIN_VALUE, Integer.MAX_VALUE}) {
            Check.fails(x, "outputChar(" + bad + ")", Check.INDEX, () -> x.outputChar(bad));
        }
        x.dismiss(1);
        Check.fails(x, "writeCommand of a dismissed one", Check.INDEX, () -> x.writeCommand(1));
        Check.is("the whole navy", Check.written(x, 0), "0(2,3,4,5,6,7,8,9,10,11)");
        x.undo();
        Check.is("undo leaves the output", Check.output(x), "0(2,3,4,5,6,7,8,9,10,11)");
    }

    private static void longestOutput() {
        CommandChain x = new CommandChain();
        for (int i = 1; i <= 8; i++) {
            x.appoint(i - 1, 9 - i, 1);
        }
        x.appoint(0, 8, 1);
        x.appoint(9, 7, 1);
        x.appoint(10, 6, 1);
        Check.is("the longest output", Check.written(x, 0), "0(1(2(3(4(5(6(7(8))))))),9(10(11)))");
    }

    public static void main(String[] args) {
        promise44Feed();
        promise45EachCommand();
        promises45And46Malformed();
        malformedTextChangesNothing();
        promises45And47Failing();
        limitsFailCommands();
        promises48And49Output();
        outputOfSubtrees();
        longestOutput();
        Check.end("TextTests");
    }
}
