import java.util.ArrayList;
import java.util.List;

/** The term Errors and the limit of calls: each refused call of a busy object, and calls that change nothing. */
public final class ErrorsTests {
    private static final String UNCHANGED =
            "A method that throws an exception leaves the state unchanged, unless its description says otherwise.";

    private ErrorsTests() {
    }

    /** Run compares all that an object shows before and after each call that throws. */
    private static void unchanged(String method, String lines) {
        Run.sentence("Errors", UNCHANGED + " (" + method + ")", Rows.BUSY + lines);
    }

    private static void refusedChanges() {
        unchanged("appoint", """
                appoint(5, 1, 1) throws.IndexOutOfBoundsException
                appoint(0, 9, 1) throws.IllegalArgumentException
                appoint(0, 1, 101) throws.IllegalArgumentException
                """);
        unchanged("appoint to the full navy", """
                7 x appoint(0, 1, 1)
                appoint(0, 1, 1) throws.IllegalStateException
                """);
        unchanged("promote", """
                promote(5) throws.IndexOutOfBoundsException
                promote(0) throws.IllegalStateException
                promote(4) throws.IllegalStateException
                """);
        unchanged("transfer", """
                transfer(1, 5) throws.IndexOutOfBoundsException
                transfer(5, 1) throws.IndexOutOfBoundsException
                transfer(0, 1) throws.IllegalArgumentException
                transfer(2, 2) throws.IllegalArgumentException
                transfer(1, 3) throws.UnsupportedOperationException
                transfer(4, 2) throws.IllegalStateException
                """);
        unchanged("dismiss", """
                dismiss(5) throws.IndexOutOfBoundsException
                dismiss(0) throws.IllegalArgumentException
                """);
        unchanged("issue", """
                issue(0, 5, 1) throws.IndexOutOfBoundsException
                issue(5, 0, 1) throws.IndexOutOfBoundsException
                issue(0, 1, 101) throws.IllegalArgumentException
                issue(4, 3, 1) throws.IllegalStateException
                5 x issue(0, 1, 1)
                issue(0, 1, 1) throws.UnsupportedOperationException
                """);
        unchanged("passHours", """
                passHours(0) throws.IllegalArgumentException
                passHours(25) throws.IllegalArgumentException
                """);
        unchanged("define", """
                define('A', 'a', 1) throws.IllegalArgumentException
                define('a', '{', 1) throws.IllegalArgumentException
                define('a', 'b', 100) throws.IllegalArgumentException
                erase('a', 'b')
                erase('q', 'z')
                """ + Rows.FULL_BOOK + "define('q', 'z', 1) throws.IllegalStateException\n");
        unchanged("erase", """
                erase('a', 'B') throws.IllegalArgumentException
                erase('b', 'a') throws.NoSuchElementException
                """);
    }

    private static void refusedTexts() {
        unchanged("feed", "type(" + ";wait".repeat(8) + ") = 54\n" + """
                6 x feed(';')
                feed('x') throws.IllegalStateException
                """);
        unchanged("runCommands", """
                runCommands() = 2
                run(fire 1;wait;wai) throws.IllegalArgumentException
                run(fire 1;wait 24;add 0 5 5;flag ab 9;wait 0) throws.UnsupportedOperationException
                """);
        unchanged("writeCommand", """
                writeCommand(5) throws.IndexOutOfBoundsException
                outputChar(7) throws.IndexOutOfBoundsException
                """);
        unchanged("undo", """
                8 x undo()
                undo() throws.IllegalStateException
                """);
        Run.sentence("Errors", UNCHANGED + " (restore, errorPosition, failedCommand)", Rows.LINE + """
                restore() throws.IllegalStateException
                errorPosition() throws.NoSuchElementException
                failedCommand() throws.NoSuchElementException
                executedShare() throws.ArithmeticException
                """);
    }

    private static void refusedQueries() {
        StringBuilder rows = new StringBuilder();
        for (String method : new String[] {"rank", "loyalty", "refusals", "superior", "subordinates", "depth",
                "depthFromTop", "commandSize", "commandSizeByCounting"}) {
            rows.append(method).append("(5) throws.IndexOutOfBoundsException\n");
        }
        for (String method : new String[] {"isAbove", "commonSuperior", "hoursFor", "greatestSeverity",
                "greatestSeverityByTrial"}) {
            rows.append(method).append("(0, 5) throws.IndexOutOfBoundsException\n");
        }
        unchanged("queries of officers", rows.toString());
        unchanged("queries of ways", """
                superior(0) throws.NoSuchElementException
                hoursFor(1, 4) throws.IllegalStateException
                greatestSeverity(1, 0) throws.IllegalStateException
                greatestSeverityByTrial(3, 3) throws.IllegalStateException
                firstRefusal(0, 5, 1) throws.IndexOutOfBoundsException
                firstRefusal(0, 1, 101) throws.IllegalArgumentException
                firstRefusal(1, 0, 1) throws.IllegalStateException
                firstRefusal(0, 1, 1) throws.NoSuchElementException
                """);
        unchanged("queries of orders and flags", """
                holder(1) throws.IndexOutOfBoundsException
                target(1) throws.IndexOutOfBoundsException
                severity(-1) throws.IndexOutOfBoundsException
                meaning('a', 'B') throws.IllegalArgumentException
                meaning('b', 'a') throws.NoSuchElementException
                flagsWith(100) throws.IllegalArgumentException
                officerByRank(5) throws.NoSuchElementException
                """);
    }

    private static void callsThatOnlyAnswer() {
        String words = "Returns ... (a query changes nothing)";
        Run.sameViews("10 to 50", words, Rows.BUSY, Rows.BUSY + """
                hour()
                officerCount()
                appointedCount()
                isInNavy(3)
                rank(3)
                loyalty(3)
                refusals(3)
                superior(3)
                subordinates(1)
                depth(3)
                depthFromTop(3)
                commandSize(1)
                commandSizeByCounting(1)
                isAbove(1, 3)
                commonSuperior(3, 4)
                greatestDepth()
                hoursFor(0, 3)
                greatestSeverity(0, 3)
                greatestSeverityByTrial(0, 3)
                firstRefusal(0, 3, 100)
                orderCount()
                holder(0)
                target(0)
                severity(0)
                executedOrders()
                refusedOrders()
                lostOrders()
                flagCount()
                meaning('a', 'b')
                flagsWith(3)
                officerByRank(2)
                meanLoyalty()
                executedShare()
                isConsistent()
                errorPosition()
                failedCommand()
                outputChar(0)
                undoCount()
                """, View.all());
        Run.sameViews("44", "Appends a character to the input buffer. (and changes nothing else)", Rows.BUSY,
                Rows.BUSY + "feed('x')\n", allBut(View.INPUT, View.INPUT_LENGTH));
        Run.sameViews("48", "Replaces the output (and changes nothing else)", Rows.BUSY,
                Rows.BUSY + "writeCommand(0)\n", allBut(View.OUTPUT));
        Run.sameViews("52", "Saves all officers, orders, flags, sums and the hour. (and changes nothing else)",
                Rows.BUSY, Rows.BUSY + "save()\n", allBut(View.SAVED));
    }

    private static List<View> allBut(View... excepted) {
        List<View> views = new ArrayList<>(View.all());
        views.removeAll(List.of(excepted));
        return views;
    }

    private static void mostCalls() {
        String words = "An object is used for at most 512 calls after it has been made";
        Run.sentence("Calls", words + " (with the greatest hour)",
                Rows.FULL + "500 x passHours(24)\nhour() = 12000\n");
        Run.sentence("Calls", words + " (all of them recorded)",
                "511 x define('a', 'b', 7)\ndefine('a', 'b', 7) = 1\n");
        Run.sentence("Calls", words + " (undone again and again)",
                "2 x passHours(1)\nundo()\n".repeat(170) + "hour() = 170\nundoCount() = 7\n");
    }

    private static void objectsAreApart() {
        String words = "Creates a navy with an admiral only (that shares nothing with another one)";
        Subject untouched = new Subject();
        Subject busy = new Subject();
        for (Row row : Row.parse(Rows.BUSY)) {
            row.on(busy);
        }
        List<View> views = List.of(View.STATE, View.UNDO_COUNT, View.REPORTS, View.OUTPUT, View.SAVED,
                View.INPUT_LENGTH);
        for (View view : views) {
            Run.same("1", words, view.of(untouched), view.of(new Subject()));
        }
    }

    public static void main(String[] args) {
        refusedChanges();
        refusedTexts();
        refusedQueries();
        callsThatOnlyAnswer();
        mostCalls();
        objectsAreApart();
        Run.end("ErrorsTests");
    }
}
