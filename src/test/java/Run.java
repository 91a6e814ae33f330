import java.util.ArrayList;
import java.util.List;

/** Tests a sentence of the document by runs of calls on new objects, each call with the answer that is due. */
final class Run {
    private static int sentences;
    private static int wrong;

    private Run() {
    }

    /** One sentence and the run that would go wrong if it were broken. Where tells the promise or the term. */
    static void sentence(String where, String words, String lines) {
        tell(where, words, faults(lines));
    }

    /** A sentence that tells of two runs that they leave objects of which the views are the same. */
    static void sameViews(String where, String words, String lines, String otherLines, List<View> views) {
        tell(where, words, differences(Row.parse(lines), Row.parse(otherLines), views));
    }

    static void same(String where, String words, String got, String due) {
        tell(where, words, got.equals(due) ? List.of() : List.of(got + "\ndue is\n  " + due));
    }

    /** The rows that don't answer what is due, and what the ones that throw change all the same. */
    static List<String> faults(String lines) {
        List<String> faults = new ArrayList<>();
        List<Row> rows = Row.parse(lines);
        Subject subject = new Subject();
        for (int i = 0; i < rows.size(); i++) {
            Row row = rows.get(i);
            String got = row.on(subject);
            boolean right = row.due() == null ? !Subject.failed(got) : got.equals(row.due());
            if (!right) {
                faults.add("row " + (i + 1) + ", " + row.text() + ": answered " + got);
            }
            if (Subject.failed(got)) {
                faults.addAll(differences(rows.subList(0, i), rows.subList(0, i + 1), viewsUnchangedBy(row)));
            }
        }
        return faults;
    }

    /** A method that throws leaves all as it was; runCommands has its input and what it reports excepted. */
    private static List<View> viewsUnchangedBy(Row row) {
        List<View> views = View.all();
        if (row.runsCommands()) {
            views.removeAll(List.of(View.INPUT, View.INPUT_LENGTH, View.REPORTS));
        }
        return views;
    }

    static List<String> differences(List<Row> rows, List<Row> others, List<View> views) {
        List<String> differences = new ArrayList<>();
        for (View view : views) {
            String one = view.of(replay(rows));
            String other = view.of(replay(others));
            if (!one.equals(other)) {
                differences.add("after " + others.get(others.size() - 1).text() + ":\n  " + other
                        + "\ndue is\n  " + one);
            }
        }
        return differences;
    }

    private static Subject replay(List<Row> rows) {
        Subject subject = new Subject();
        for (Row row : rows) {
            row.on(subject);
        }
        return subject;
    }

    private static void tell(String where, String words, List<String> faults) {
        sentences++;
        wrong += faults.isEmpty() ? 0 : 1;
        for (String fault : faults) {
            System.out.println(where + ", \"" + words + "\": " + fault);
        }
    }

    /** Closes a test: ends with exit code 1 if something was wrong. */
    static void end(String test) {
        System.out.println(test + ": " + sentences + " sentences, " + wrong + " wrong");
        if (wrong != 0 || sentences == 0) {
            System.exit(1);
        }
    }
}
