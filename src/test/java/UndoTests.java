import java.util.List;

/** Promises 50 to 53 and the term Undo: undo, save and restore. */
public final class UndoTests {
    private static final String RECORDED = "The methods appoint, promote, transfer, dismiss, issue, passHours, define,"
            + " erase and runCommands are recorded when they return normally, even if nothing changes.";

    /** A few undos fewer than BUSY, so that the number of them can still grow. */
    private static final String SOME = """
            appoint(0, 8, 50)
            appoint(1, 6, 40)
            issue(0, 2, 41)
            passHours(1)
            define('a', 'b', 3)
            writeCommand(0)
            """;

    private UndoTests() {
    }

    /** A call that is recorded, and undone so that all is as before it. */
    private static void recorded(String call) {
        Run.sentence("Undo", RECORDED + " (" + call + ")",
                SOME + "undoCount() = 5\n" + call + "\nundoCount() = 6\nundo() = 5\n");
        List<View> views = View.all();
        views.remove(View.INPUT);
        Run.sameViews("51", "Undoes the latest recorded call.", SOME, SOME + call + "\nundo()\n", views);
    }

    private static void notRecorded(String call) {
        Run.sentence("Undo", "recorded when they return normally (and no others are)",
                SOME + "save()\nundoCount() = 5\n" + call + "\nundoCount() = 5\nundo() = 4\nflagCount() = 0\n");
    }

    private static void termUndo() {
        recorded("appoint(2, 5, 50) = 3");
        recorded("promote(2) = 7");
        recorded("transfer(2, 0) = 3");
        recorded("transfer(2, 1) = 2");
        recorded("dismiss(1) = 1");
        recorded("dismiss(2) = 0");
        recorded("issue(1, 2, 40) = 1");
        recorded("passHours(1) = 0");
        recorded("passHours(24) = 0");
        recorded("define('c', 'z', 4) = 2");
        recorded("define('a', 'b', 4) = 1");
        recorded("define('a', 'b', 3) = 1");
        recorded("erase('a', 'b') = 3");
        recorded("run(wait) = 1");
        recorded("run(move 2 1) = 1");
        recorded("run(flag ab 3) = 1");
        recorded("run(add 0 5 5;fire 1;wait 3;flag zz 9;order 0 3 1) = 5");
        for (String query : new String[] {"hour()", "officerCount()", "appointedCount()", "isInNavy(0)", "rank(0)",
                "loyalty(0)", "refusals(1)", "superior(1)", "subordinates(0)", "depth(1)", "depthFromTop(1)",
                "commandSize(0)", "commandSizeByCounting(0)", "isAbove(0, 1)", "commonSuperior(1, 2)",
                "greatestDepth()", "hoursFor(0, 1)", "greatestSeverity(0, 1)", "greatestSeverityByTrial(0, 1)",
                "firstRefusal(0, 1, 51)", "orderCount()", "holder(0)", "target(0)", "severity(0)", "executedOrders()",
                "refusedOrders()", "lostOrders()", "flagCount()", "meaning('a', 'b')", "flagsWith(3)",
                "officerByRank(0)", "meanLoyalty()", "isConsistent()", "feed('w')", "writeCommand(1)",
                "outputChar(0)", "undoCount()", "save()"}) {
            notRecorded(query);
        }
        notRecorded("appoint(0, 9, 50) throws.IllegalArgumentException");
        notRecorded("promote(0) throws.IllegalStateException");
        notRecorded("transfer(1, 2) throws.UnsupportedOperationException");
        notRecorded("dismiss(0) throws.IllegalArgumentException");
        notRecorded("issue(2, 1, 5) throws.IllegalStateException");
        notRecorded("passHours(0) throws.IllegalArgumentException");
        notRecorded("define('a', 'b', 100) throws.IllegalArgumentException");
        notRecorded("erase('b', 'a') throws.NoSuchElementException");
        notRecorded("runCommands() throws.IllegalArgumentException");
        notRecorded("run(wait;fire 0) throws.UnsupportedOperationException");
    }

    private static void undoCounts() {
        Run.sentence("50", "Returns the number, 0 to 8.", """
                undoCount() = 0
                passHours(1)
                undoCount() = 1
                6 x passHours(1)
                undoCount() = 7
                passHours(1)
                undoCount() = 8
                passHours(1)
                undoCount() = 8
                20 x passHours(1)
                undoCount() = 8
                undo() = 7
                undoCount() = 7
                """);
        Run.sentence("Undo", "At most the 8 latest calls can be undone.", """
                9 x passHours(1)
                undo() = 7
                hour() = 8
                6 x undo()
                undo() = 0
                hour() = 1
                undo() throws.IllegalStateException
                hour() = 1
                undoCount() = 0
                """);
        Run.sentence("Undo", "At most the 8 latest calls can be undone. (all of just 8)", """
                8 x passHours(1)
                undo() = 7
                6 x undo()
                hour() = 1
                undo() = 0
                hour() = 0
                undo() throws.IllegalStateException
                """);
        Run.sentence("Undo", "At most the 8 latest calls can be undone. (of many, twice)", """
                30 x passHours(1)
                4 x undo()
                hour() = 26
                2 x passHours(5)
                undoCount() = 6
                undo() = 5
                hour() = 31
                undo() = 4
                hour() = 26
                3 x undo()
                undo() = 0
                hour() = 22
                undo() throws.IllegalStateException
                """);
        Run.sentence("51", "Throws IllegalStateException if no call can be undone", """
                undo() throws.IllegalStateException
                undoCount() = 0
                passHours(1)
                undo() = 0
                undo() throws.IllegalStateException
                hour() = 0
                passHours(2)
                undoCount() = 1
                undo() = 0
                hour() = 0
                """);
        Run.sentence("51", "Returns how many calls can still be undone. (what was undone cannot be undone)", """
                3 x passHours(1)
                undo() = 2
                undo() = 1
                passHours(5)
                undo() = 1
                hour() = 1
                undo() = 0
                hour() = 0
                """);
    }

    private static void undoOfSeveral() {
        String[] calls = {"passHours(1)", "promote(2)", "transfer(2, 0)", "issue(0, 2, 4)", "dismiss(1)",
                "appoint(2, 1, 1)", "erase('a', 'b')", "run(wait;flag az 1)"};
        StringBuilder made = new StringBuilder(SOME);
        for (int i = 0; i < calls.length; i++) {
            String before = made.toString();
            made.append(calls[i]).append('\n');
            StringBuilder undone = new StringBuilder(made);
            for (int later = i + 1; later < calls.length; later++) {
                undone.append(calls[later]).append('\n');
            }
            undone.append(calls.length - i).append(" x undo()\n");
            Run.sameViews("51", "Undoes the latest recorded call. (back to before " + calls[i] + ")", before,
                    undone.toString(), List.of(View.STATE, View.OUTPUT));
        }
    }

    private static void notPartOfTheState() {
        String notPart = "The input buffer, the output, the error position and the failed command are not part of the"
                + " undone or saved state.";
        String reported = """
                type(wait x)
                runCommands() throws.IllegalArgumentException
                run(wait;fire 0) throws.UnsupportedOperationException
                writeCommand(0)
                type(wait)
                """;
        String kept = """
                errorPosition() = 5
                failedCommand() = 1
                outputChar(0) = 0
                outputChar(1) throws.IndexOutOfBoundsException
                feed('x') = 5
                """;
        Run.sentence("Undo", notPart + " (undo)", "appoint(0, 5, 50)\ndismiss(1)\n" + reported + "undo()\n" + kept);
        Run.sentence("Undo", notPart + " (restore)", "save()\n" + reported + "restore()\n" + kept);
        Run.sentence("Undo", notPart + " (not yet there when saved)",
                "type(a)\nsave()\nrunCommands() throws.IllegalArgumentException\nrestore()\n"
                + "errorPosition() = 1\nfeed('x') = 1\n");
        Run.sentence("Undo", notPart + " (undo of runCommands)", """
                run(wait 5) = 1
                undo() = 0
                feed('w') = 1
                """);
    }

    private static void save() {
        Run.sentence("52", "Returns the number of officers in the navy. (from 1 to 12)", """
                save() = 1
                appoint(0, 5, 50)
                save() = 2
                dismiss(1)
                save() = 1
                10 x appoint(0, 5, 50)
                save() = 11
                dismiss(11)
                save() = 10
                undo() = 7
                save() = 11
                """);
        Run.sentence("52", "Returns the number of officers in the navy. (full)", Rows.FULL + "save() = 12\n");
        Run.sentence("52", "Saves all officers, orders, flags, sums and the hour.", Rows.BUSY + """
                undoCount() = 8
                save() = 5
                undoCount() = 8
                """);
        String changes = """
                promote(3)
                transfer(3, 4)
                dismiss(2)
                issue(0, 4, 100)
                passHours(24)
                define('a', 'b', 9)
                erase('q', 'z')
                appoint(0, 1, 1)
                """;
        Run.sameViews("52", "Saves all officers, orders, flags, sums and the hour.", Rows.BUSY + "save()\n",
                Rows.BUSY + "save()\n" + changes + "restore()\n",
                List.of(View.STATE, View.REPORTS, View.OUTPUT, View.INPUT, View.INPUT_LENGTH, View.SAVED));
        Run.sentence("52", "An earlier saved state is replaced. (by a smaller one with a flag more)", Rows.FLEET + """
                save() = 6
                define('a', 'a', 1)
                dismiss(5)
                dismiss(4)
                save() = 4
                appoint(3, 1, 50)
                erase('a', 'a')
                restore() = 4
                write(0) = 0(1(3),2)
                meaning('a', 'a') = 1
                """);
    }

    private static void restore() {
        Run.sentence("53", "Throws IllegalStateException if no state was saved", """
                restore() throws.IllegalStateException
                passHours(1)
                restore() throws.IllegalStateException
                hour() = 1
                undoCount() = 1
                save() = 1
                restore() = 1
                hour() = 1
                """);
        Run.sentence("53", "The saved state is kept", Rows.FLEET + """
                save() = 6
                dismiss(1)
                passHours(1)
                restore() = 6
                hour() = 0
                superior(3) = 1
                dismiss(3)
                passHours(2)
                restore() = 6
                hour() = 0
                restore() = 6
                superior(5) = 3
                """);
        Run.sentence("53", "The saved state is kept (although calls are undone)", """
                appoint(0, 5, 50)
                save() = 2
                undo() = 0
                officerCount() = 1
                restore() = 2
                loyalty(1) = 50
                """);
        Run.sentence("53", "and no call can be undone afterwards.", """
                9 x passHours(1)
                save()
                undoCount() = 8
                restore() = 1
                undoCount() = 0
                undo() throws.IllegalStateException
                hour() = 9
                passHours(1)
                undoCount() = 1
                undo() = 0
                hour() = 9
                undo() throws.IllegalStateException
                """);
        Run.sentence("53", "Returns the number of officers in the navy. (as it is after the restoring)", """
                save() = 1
                11 x appoint(0, 5, 50)
                restore() = 1
                appointedCount() = 1
                11 x appoint(0, 5, 50)
                appoint(0, 5, 50) throws.IllegalStateException
                save() = 12
                dismiss(11)
                restore() = 12
                isInNavy(11) = true
                """);
    }

    public static void main(String[] args) {
        termUndo();
        undoCounts();
        undoOfSeveral();
        notPartOfTheState();
        save();
        restore();
        Run.end("UndoTests");
    }
}
