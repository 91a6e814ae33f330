/** Promises 50 to 53: undo, save and restore. */
public final class UndoTests {
    private UndoTests() {
    }

    private static CommandChain sample() {
        CommandChain x = new CommandChain();
        x.appoint(0, 8, 50);
        x.appoint(1, 7, 40);
        x.appoint(1, 6, 30);
        x.issue(0, 2, 10);
        x.issue(1, 3, 31);
        x.define('a', 'b', 3);
        return x;
    }

    private static String stateWithoutUndo(CommandChain x) {
        return Check.picture(x).replaceAll("undo \\d+", "");
    }

    private static void eachRecordedCall(CommandChain x, String what, Check.Call call) {
        String before = stateWithoutUndo(x);
        int count = x.undoCount();
        call.make();
        Check.is("undoCount after " + what, x.undoCount(), count + 1);
        Check.is("undo of " + what, x.undo(), count);
        Check.is("the state after undo of " + what, stateWithoutUndo(x), before);
    }

    private static void promise51EachMethod() {
        CommandChain x = sample();
        eachRecordedCall(x, "appoint", () -> x.appoint(1, 1, 1));
        eachRecordedCall(x, "promote", () -> x.promote(3));
        eachRecordedCall(x, "transfer", () -> x.transfer(3, 2));
        eachRecordedCall(x, "a transfer that changes nothing", () -> x.transfer(3, 1));
        eachRecordedCall(x, "dismiss", () -> x.dismiss(1));
        eachRecordedCall(x, "issue", () -> x.issue(1, 2, 3));
        eachRecordedCall(x, "passHours", () -> x.passHours(2));
        eachRecordedCall(x, "define", () -> x.define('c', 'd', 4));
        eachRecordedCall(x, "a new meaning", () -> x.define('a', 'b', 4));
        eachRecordedCall(x, "a define that changes nothing", () -> x.define('a', 'b', 3));
        eachRecordedCall(x, "erase", () -> x.erase('a', 'b'));
        eachRecordedCall(x, "runCommands", () -> Check.run(x, "fire 2;add 0 5 5;wait 3;flag zz 9;order 0 4 1"));
    }

    /** Calls one after the other, and then all of them undone, so that each one's state before it is seen. */
    private static void undoneInReverse(CommandChain x, Check.Call... calls) {
        String[] before = new String[calls.length];
        for (int i = 0; i < calls.length; i++) {
            before[i] = stateWithoutUndo(x);
            calls[i].make();
        }
        for (int i = calls.length - 1; i >= 0; i--) {
            x.undo();
            Check.is("the state before call " + i, stateWithoutUndo(x), before[i]);
        }
    }

    private static void promise51ManyCalls() {
        CommandChain x = sample();
        undoneInReverse(x, () -> x.passHours(1), () -> x.promote(3), () -> x.transfer(3, 0), () -> x.issue(0, 3, 4),
                () -> x.dismiss(2), () -> x.appoint(3, 1, 1), () -> x.passHours(3), () -> x.transfer(3, 1));
        undoneInReverse(x, () -> x.define('c', 'd', 4), () -> x.define('e', 'f', 5), () -> x.erase('a', 'b'),
                () -> x.erase('e', 'f'), () -> x.issue(0, 1, 1), () -> Check.run(x, "wait;flag aa 1"),
                () -> x.erase('a', 'a'), () -> x.define('c', 'd', 5));
        undoneInReverse(x, () -> x.promote(3), () -> x.issue(0, 1, 1), () -> x.transfer(2, 0), () -> x.passHours(1),
                () -> x.erase('a', 'b'), () -> x.dismiss(1), () -> x.define('q', 'q', 1), () -> x.appoint(2, 1, 1));
    }

    private static void promise50Count() {
        CommandChain x = new CommandChain();
        Check.is("undoCount", x.undoCount(), 0);
        Check.fails(x, "undo of nothing", Check.STATE, () -> x.undo());
        for (int i = 1; i <= 20; i++) {
            x.passHours(1);
            Check.is("undoCount after " + i, x.undoCount(), Math.min(i, 8));
        }
        for (int left = 7; left >= 0; left--) {
            Check.is("undo with " + left + " left", x.undo(), left);
            Check.is("hour then", x.hour(), 12 + left);
            Check.is("undoCount then", x.undoCount(), left);
        }
        Check.fails(x, "undo of nothing more", Check.STATE, () -> x.undo());
        Check.is("hour at last", x.hour(), 12);
        x.passHours(3);
        Check.is("undoCount after another", x.undoCount(), 1);
        x.undo();
        Check.is("hour after its undo", x.hour(), 12);
    }

    private static void whatIsNotRecorded() {
        CommandChain x = sample();
        int count = x.undoCount();
        x.feed('w');
        x.save();
        x.writeCommand(0);
        x.depth(1);
        x.isConsistent();
        Check.fails(x, "appoint(9, 1, 1)", Check.INDEX, () -> x.appoint(9, 1, 1));
        Check.fails(x, "promote(0)", Check.STATE, () -> x.promote(0));
        Check.fails(x, "passHours(0)", Check.ARGUMENT, () -> x.passHours(0));
        Check.failsFreely("runCommands", Check.ARGUMENT, () -> x.runCommands());
        Check.feed(x, "wait;fire 0");
        Check.failsFreely("runCommands", Check.UNSUPPORTED, () -> x.runCommands());
        Check.is("undoCount", x.undoCount(), count);
        x.feed('w');
        x.undo();
        Check.is("undo leaves the input buffer", x.feed('a'), 2);
        Check.is("undo leaves the error position", x.errorPosition(), 1);
        Check.is("undo leaves the failed command", x.failedCommand(), 1);
        Check.is("undo leaves the output", Check.output(x), "0(1(2,3))");
        Check.is("the flag is gone", x.flagCount(), 0);
    }

    private static void promises52And53SaveAndRestore() {
        CommandChain x = sample();
        Check.fails(x, "restore of nothing", Check.STATE, () -> x.restore());
        x.passHours(1);
        String saved = stateWithoutUndo(x);
        int count = x.undoCount();
        Check.is("save", x.save(), 4);
        Check.is("save leaves the undos", x.undoCount(), count);
        x.dismiss(1);
        x.erase('a', 'b');
        x.passHours(5);
        x.appoint(0, 1, 1);
        Check.is("restore", x.restore(), 4);
        Check.is("the state then", stateWithoutUndo(x), saved);
        Check.is("undoCount then", x.undoCount(), 0);
        Check.fails(x, "undo after restore", Check.STATE, () -> x.undo());
        x.dismiss(2);
        x.passHours(1);
        Check.is("restore again", x.restore(), 4);
        Check.is("the state again", stateWithoutUndo(x), saved);
        x.dismiss(3);
        x.dismiss(2);
        Check.is("save another", x.save(), 2);
        x.undo();
        Check.is("undo leaves the saved state", x.restore(), 2);
        Check.is("the tree", Check.written(x, 0), "0(1)");
        x.passHours(1);
        Check.is("undoCount counts again", x.undoCount(), 1);
    }

    private static void whatIsNotSaved() {
        CommandChain x = new CommandChain();
        x.writeCommand(0);
        x.feed('x');
        x.save();
        Check.failsFreely("runCommands", Check.ARGUMENT, () -> x.runCommands());
        Check.feed(x, "fire 0");
        Check.failsFreely("runCommands", Check.UNSUPPORTED, () -> x.runCommands());
        x.appoint(0, 1, 1);
        x.writeCommand(0);
        x.feed('y');
        x.restore();
        Check.is("the input buffer", x.feed('z'), 2);
        Check.is("errorPosition", x.errorPosition(), 0);
        Check.is("failedCommand", x.failedCommand(), 0);
        Check.is("the output", Check.output(x), "0(1)");
        Check.is("officerCount", x.officerCount(), 1);
    }

    private static void manySavesAndUndos() {
        CommandChain x = new CommandChain();
        x.save();
        for (int i = 0; i < 30; i++) {
            x.appoint(0, 5, i);
            x.define('a', (char) ('a' + i % 20), i);
            if (i % 3 == 2) {
                x.restore();
            }
            Check.is("officerCount in round " + i, x.officerCount(), i % 3 == 2 ? 1 : 2 + i % 3);
        }
    }

    public static void main(String[] args) {
        promise51EachMethod();
        promise51ManyCalls();
        promise50Count();
        whatIsNotRecorded();
        promises52And53SaveAndRestore();
        whatIsNotSaved();
        manySavesAndUndos();
        Check.end("UndoTests");
    }
}
