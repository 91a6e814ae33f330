import java.util.List;

/** The tests' own tools: what is wrong in a run is found, and what is right is not. */
public final class RunTests {
    private static int wrong;

    private RunTests() {
    }

    private static void is(String what, Object got, Object due) {
        if (!got.equals(due)) {
            wrong++;
            System.out.println(what + ": " + got + ", due is " + due);
        }
    }

    private static void faults(int due, String lines) {
        is("the faults of " + lines, Run.faults(lines).size(), due);
    }

    private static void answersAreCompared() {
        faults(0, "hour() = 0\npassHours(2) = 0\nhour() = 2\nrank(0)\n");
        faults(1, "hour() = 1\n");
        faults(1, "rank(0) throws.IndexOutOfBoundsException\n");
        faults(1, "rank(1)\n");
        faults(1, "rank(1) = 9\n");
        faults(1, "rank(1) throws.IllegalArgumentException\n");
        faults(0, "rank(1) throws.IndexOutOfBoundsException\n");
        faults(2, "2 x officerCount() = 2\n");
        faults(1, "write(0) = 0()\n");
        faults(1, "run(wait) = 2\n");
        faults(1, "type(wait) = 5\n");
        faults(0, "// no row\ntype(wait) = 4\nrun(;wait) = 2\nwrite(0) = 0\ndefine('a', 'z', 1) = 1\n"
                + "define(#97, #122, 2) = 1\nisInNavy(MIN) = false\nisInNavy(MAX) = false\n");
    }

    private static void mistakesInTestsAreRefused() {
        for (String row : new String[] {"rank 0", "nothing() = 1", "rank() = 9", "rank(0, 0) = 9", "rank(x) = 9",
                "define('ab', 'a', 1)", "513 x hour()"}) {
            String outcome = "accepted";
            try {
                Run.faults(row + "\n");
            } catch (IllegalArgumentException | IllegalStateException e) {
                outcome = "refused";
            }
            is(row, outcome, "refused");
        }
        faults(0, "512 x hour()\n");
    }

    /** Each change is to be seen in the views that show it. */
    private static void viewsSeeChanges() {
        for (String change : new String[] {"appoint(0, 1, 1)", "promote(3)", "transfer(3, 2)", "dismiss(3)",
                "issue(0, 3, 1)", "passHours(1)", "define('a', 'b', 4)", "define('c', 'z', 3)", "erase('a', 'b')"}) {
            differs(change, View.STATE);
        }
        List<View> changedByUndo = View.all();
        changedByUndo.removeAll(List.of(View.REPORTS, View.OUTPUT, View.INPUT_LENGTH, View.SAVED));
        for (View view : changedByUndo) {
            differs("undo()", view);
        }
        differs("run(;)", View.REPORTS);
        differs("writeCommand(0)", View.OUTPUT);
        differs("feed('1')", View.INPUT_LENGTH);
        differs("feed('1')", View.INPUT);
        differs("save()", View.SAVED);
    }

    private static void differs(String change, View view) {
        // The transfer gives room for a promotion of 3.
        String busy = Rows.BUSY + "transfer(3, 1)\n";
        List<Row> before = Row.parse(busy);
        List<Row> after = Row.parse(busy + change + "\n");
        is("differences by " + change, Run.differences(before, after, List.of(view)).size(), 1);
    }

    public static void main(String[] args) {
        answersAreCompared();
        mistakesInTestsAreRefused();
        viewsSeeChanges();
        System.out.println("RunTests: " + wrong + " wrong");
        if (wrong != 0) {
            System.exit(1);
        }
    }
}
