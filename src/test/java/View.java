import java.util.ArrayList;
import java.util.List;

/**
 * What an object shows of one part of itself. A view may use up the object that it looks at: two runs are
 * compared by replaying each on a new object for each view.
 */
interface View {
    View STATE = View::state;
    View UNDO_COUNT = subject -> subject.call("undoCount");
    View REPORTS = subject -> subject.call("errorPosition") + " " + subject.call("failedCommand");
    View OUTPUT = Subject::output;
    View INPUT_LENGTH = subject -> subject.call("feed", ' ');
    View INPUT = subject -> subject.call("runCommands") + " " + subject.call("errorPosition") + state(subject);
    View SAVED = subject -> subject.call("restore") + state(subject);

    String of(Subject subject);

    static List<View> all() {
        List<View> views = new ArrayList<>(List.of(STATE, UNDO_COUNT, REPORTS, OUTPUT, INPUT_LENGTH, INPUT, SAVED));
        for (int times = 1; times <= 8; times++) {
            views.add(undone(times));
        }
        return views;
    }

    private static View undone(int times) {
        return subject -> {
            String last = "";
            for (int i = 0; i < times; i++) {
                last = subject.call("undo");
            }
            return last + state(subject);
        };
    }

    /** All that undo, save and restore bring back, in some 130 calls. */
    private static String state(Subject subject) {
        StringBuilder all = new StringBuilder();
        for (String name : new String[] {"hour", "officerCount", "appointedCount", "orderCount", "executedOrders",
                "refusedOrders", "lostOrders", "flagCount"}) {
            all.append(' ').append(name).append(' ').append(subject.call(name));
        }
        for (int officer = 0; officer < 12; officer++) {
            addOfficer(all, subject, officer);
        }
        for (int order = 0; order < 6; order++) {
            addOrder(all, subject, order);
        }
        addFlags(all, subject);
        return all.toString();
    }

    private static void addOfficer(StringBuilder all, Subject subject, int officer) {
        String rank = subject.call("rank", officer);
        if (!Subject.failed(rank)) {
            all.append("; officer ").append(officer).append(": rank ").append(rank)
                    .append(" loyalty ").append(subject.call("loyalty", officer))
                    .append(" refusals ").append(subject.call("refusals", officer))
                    .append(" superior ").append(subject.call("superior", officer));
        }
    }

    private static void addOrder(StringBuilder all, Subject subject, int order) {
        String holder = subject.call("holder", order);
        if (!Subject.failed(holder)) {
            all.append("; order ").append(holder).append(" to ").append(subject.call("target", order))
                    .append(" severity ").append(subject.call("severity", order));
        }
    }

    /** The flags that begin with an a or end with a z: the others would take too many calls. */
    private static void addFlags(StringBuilder all, Subject subject) {
        for (char letter = 'a'; letter <= 'z'; letter++) {
            addFlag(all, subject, 'a', letter);
            addFlag(all, subject, letter, 'z');
        }
    }

    private static void addFlag(StringBuilder all, Subject subject, char first, char second) {
        String meaning = subject.call("meaning", first, second);
        if (!Subject.failed(meaning)) {
            all.append("; flag ").append(first).append(second).append(' ').append(meaning);
        }
    }
}
