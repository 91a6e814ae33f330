import java.util.ArrayDeque;
import java.util.ArrayList;
import java.util.Comparator;
import java.util.Deque;
import java.util.List;
import java.util.NoSuchElementException;
import java.util.TreeMap;
import java.util.regex.Matcher;
import java.util.regex.Pattern;

/** The document once more, written another way: objects that point at one another, lists and a regular expression. */
final class ModelNavy {
    private static final Pattern TEXT;

    static {
        String n = "[0-9]{1,2}";
        String of100 = "[0-9]{1,3}";
        String command = "(?:add " + n + " [0-9] " + of100 + "|move " + n + " " + n + "|fire " + n
                + "|order " + n + " " + n + " " + of100 + "|flag [a-z][a-z] " + n + "|wait(?: " + n + ")?)";
        TEXT = Pattern.compile(command + "(?:;" + command + ")*");
    }

    private static final class Officer {
        int index;
        int rank;
        int loyalty;
        int refusals;
        Officer superior;
        List<Officer> below = new ArrayList<>();
        boolean dismissed;

        boolean isAbove(Officer other) {
            for (Officer child : below) {
                if (child == other || child.isAbove(other)) {
                    return true;
                }
            }
            return false;
        }

        int size() {
            int size = 1;
            for (Officer child : below) {
                size += child.size();
            }
            return size;
        }

        int depth() {
            return superior == null ? 0 : 1 + superior.depth();
        }

        String text() {
            below.sort(Comparator.comparingInt(o -> o.index));
            List<String> parts = new ArrayList<>();
            for (Officer child : below) {
                parts.add(child.text());
            }
            return index + (parts.isEmpty() ? "" : "(" + String.join(",", parts) + ")");
        }
    }

    private static final class Order {
        Officer holder;
        Officer target;
        int severity;
    }

    private static final class State {
        List<Officer> officers = new ArrayList<>();
        List<Order> orders = new ArrayList<>();
        TreeMap<String, Integer> flags = new TreeMap<>();
        int hour;
        int executed;
        int refused;
        int lost;

        State copy() {
            State copy = new State();
            for (Officer each : officers) {
                Officer other = new Officer();
                other.index = each.index;
                other.rank = each.rank;
                other.loyalty = each.loyalty;
                other.refusals = each.refusals;
                other.dismissed = each.dismissed;
                copy.officers.add(other);
            }
            for (Officer each : officers) {
                if (each.superior != null) {
                    Officer child = copy.officers.get(each.index);
                    child.superior = copy.officers.get(each.superior.index);
                    child.superior.below.add(child);
                }
            }
            for (Order each : orders) {
                Order other = new Order();
                other.holder = copy.officers.get(each.holder.index);
                other.target = copy.officers.get(each.target.index);
                other.severity = each.severity;
                copy.orders.add(other);
            }
            copy.flags.putAll(flags);
            copy.hour = hour;
            copy.executed = executed;
            copy.refused = refused;
            copy.lost = lost;
            return copy;
        }
    }

    private interface Action {
        int act();
    }

    private State s = new State();
    private State saved;
    private final Deque<State> undos = new ArrayDeque<>();
    private String input = "";
    private String output = "";
    private Integer error;
    private Integer failed;

    ModelNavy() {
        Officer admiral = new Officer();
        admiral.rank = 9;
        admiral.loyalty = 100;
        s.officers.add(admiral);
    }

    private Officer officer(int index) {
        if (index < 0 || index >= s.officers.size() || s.officers.get(index).dismissed) {
            throw new IndexOutOfBoundsException();
        }
        return s.officers.get(index);
    }

    private Order order(int index) {
        if (index < 0 || index >= s.orders.size()) {
            throw new IndexOutOfBoundsException();
        }
        return s.orders.get(index);
    }

    private static void argument(boolean right) {
        if (!right) {
            throw new IllegalArgumentException();
        }
    }

    private static void state(boolean right) {
        if (!right) {
            throw new IllegalStateException();
        }
    }

    private static void supported(boolean right) {
        if (!right) {
            throw new UnsupportedOperationException();
        }
    }

    private static void element(boolean right) {
        if (!right) {
            throw new NoSuchElementException();
        }
    }

    private int recorded(Action action) {
        State before = s.copy();
        int answer = action.act();
        undos.addLast(before);
        if (undos.size() > 8) {
            undos.removeFirst();
        }
        return answer;
    }

    private List<Officer> present() {
        List<Officer> all = new ArrayList<>(s.officers);
        all.removeIf(o -> o.dismissed);
        return all;
    }

    private int doAppoint(int superior, int rank, int loyalty) {
        Officer above = officer(superior);
        argument(rank >= 1 && rank <= above.rank - 1 && loyalty >= 0 && loyalty <= 100);
        state(s.officers.size() != 12);
        Officer one = new Officer();
        one.index = s.officers.size();
        one.rank = rank;
        one.loyalty = loyalty;
        one.superior = above;
        above.below.add(one);
        s.officers.add(one);
        return one.index;
    }

    private int doPromote(int officer) {
        Officer one = officer(officer);
        state(one.superior != null && one.superior.rank > one.rank + 1);
        return ++one.rank;
    }

    private int doTransfer(int officer, int superior) {
        Officer one = officer(officer);
        Officer above = officer(superior);
        argument(one.superior != null && one != above);
        supported(!one.isAbove(above));
        state(above.rank > one.rank);
        one.superior.below.remove(one);
        one.superior = above;
        above.below.add(one);
        return above.size();
    }

    private int doDismiss(int officer) {
        Officer one = officer(officer);
        argument(one.superior != null);
        int answer = one.below.size();
        discharge(one);
        return answer;
    }

    private void discharge(Officer one) {
        for (Officer child : one.below) {
            child.superior = one.superior;
            one.superior.below.add(child);
        }
        one.superior.below.remove(one);
        one.below.clear();
        one.superior = null;
        one.dismissed = true;
        int count = s.orders.size();
        s.orders.removeIf(o -> o.holder == one);
        s.lost += count - s.orders.size();
    }

    private int doIssue(int from, int to, int severity) {
        Officer first = officer(from);
        Officer second = officer(to);
        argument(severity >= 0 && severity <= 100);
        state(first.isAbove(second));
        supported(s.orders.size() < 6);
        Order order = new Order();
        order.holder = first;
        order.target = second;
        order.severity = severity;
        s.orders.add(order);
        return s.orders.size() - 1;
    }

    private int doPassHours(int hours) {
        argument(hours >= 1 && hours <= 24);
        int executed = s.executed;
        for (int i = 0; i < hours; i++) {
            s.hour++;
            for (Order order : new ArrayList<>(s.orders)) {
                if (s.orders.contains(order)) {
                    visit(order);
                }
            }
        }
        return s.executed - executed;
    }

    private void visit(Order order) {
        Officer next = null;
        for (Officer child : order.holder.below) {
            if (child == order.target || child.isAbove(order.target)) {
                next = child;
            }
        }
        if (order.target.dismissed || next == null) {
            s.orders.remove(order);
            s.lost++;
            return;
        }
        if (next.loyalty < order.severity) {
            s.orders.remove(order);
            s.refused++;
            next.refusals++;
            if (next.refusals == 3) {
                discharge(next);
            }
            return;
        }
        if (next == order.target) {
            s.orders.remove(order);
            s.executed++;
            next.loyalty = next.loyalty + 2 > 100 ? 100 : next.loyalty + 2;
            return;
        }
        order.holder = next;
    }

    private static String flag(char first, char second) {
        String flag = "" + first + second;
        argument(flag.matches("[a-z]{2}"));
        return flag;
    }

    private int doDefine(char first, char second, int meaning) {
        String flag = flag(first, second);
        argument(meaning >= 0 && meaning <= 99);
        state(s.flags.containsKey(flag) || s.flags.size() != 20);
        s.flags.put(flag, meaning);
        return s.flags.size();
    }

    private int doErase(char first, char second) {
        String flag = flag(first, second);
        element(s.flags.containsKey(flag));
        return s.flags.remove(flag);
    }

    public int appoint(int superior, int rank, int loyalty) {
        return recorded(() -> doAppoint(superior, rank, loyalty));
    }

    public int promote(int officer) {
        return recorded(() -> doPromote(officer));
    }

    public int transfer(int officer, int superior) {
        return recorded(() -> doTransfer(officer, superior));
    }

    public int dismiss(int officer) {
        return recorded(() -> doDismiss(officer));
    }

    public int issue(int from, int to, int severity) {
        return recorded(() -> doIssue(from, to, severity));
    }

    public int passHours(int hours) {
        return recorded(() -> doPassHours(hours));
    }

    public int define(char first, char second, int meaning) {
        return recorded(() -> doDefine(first, second, meaning));
    }

    public int erase(char first, char second) {
        return recorded(() -> doErase(first, second));
    }

    public int hour() {
        return s.hour;
    }

    public int officerCount() {
        return present().size();
    }

    public int appointedCount() {
        return s.officers.size();
    }

    public boolean isInNavy(int officer) {
        return present().stream().anyMatch(o -> o.index == officer);
    }

    public int rank(int officer) {
        return officer(officer).rank;
    }

    public int loyalty(int officer) {
        return officer(officer).loyalty;
    }

    public int refusals(int officer) {
        return officer(officer).refusals;
    }

    public int superior(int officer) {
        Officer one = officer(officer);
        element(one.superior != null);
        return one.superior.index;
    }

    public int subordinates(int officer) {
        return officer(officer).below.size();
    }

    public int depth(int officer) {
        return officer(officer).depth();
    }

    public int depthFromTop(int officer) {
        return officer(officer).depth();
    }

    public int commandSize(int officer) {
        return officer(officer).size();
    }

    public int commandSizeByCounting(int officer) {
        return officer(officer).size();
    }

    public boolean isAbove(int first, int second) {
        Officer one = officer(first);
        return one.isAbove(officer(second));
    }

    public int commonSuperior(int first, int second) {
        Officer one = officer(first);
        Officer two = officer(second);
        Officer best = null;
        for (Officer each : present()) {
            boolean both = (each == one || each.isAbove(one)) && (each == two || each.isAbove(two));
            if (both && (best == null || each.depth() > best.depth())) {
                best = each;
            }
        }
        return best.index;
    }

    public int greatestDepth() {
        return present().stream().mapToInt(Officer::depth).max().getAsInt();
    }

    private List<Officer> way(int from, int to) {
        Officer first = officer(from);
        Officer second = officer(to);
        state(first.isAbove(second));
        List<Officer> way = new ArrayList<>();
        for (Officer at = second; at != first; at = at.superior) {
            way.add(0, at);
        }
        return way;
    }

    public int hoursFor(int from, int to) {
        return way(from, to).size();
    }

    public int greatestSeverity(int from, int to) {
        return way(from, to).stream().mapToInt(o -> o.loyalty).min().getAsInt();
    }

    public int greatestSeverityByTrial(int from, int to) {
        return greatestSeverity(from, to);
    }

    public int firstRefusal(int from, int to, int severity) {
        officer(from);
        officer(to);
        argument(severity >= 0 && severity <= 100);
        for (Officer each : way(from, to)) {
            if (each.loyalty < severity) {
                return each.index;
            }
        }
        throw new NoSuchElementException();
    }

    public int orderCount() {
        return s.orders.size();
    }

    public int holder(int order) {
        return order(order).holder.index;
    }

    public int target(int order) {
        return order(order).target.index;
    }

    public int severity(int order) {
        return order(order).severity;
    }

    public int executedOrders() {
        return s.executed;
    }

    public int refusedOrders() {
        return s.refused;
    }

    public int lostOrders() {
        return s.lost;
    }

    public int flagCount() {
        return s.flags.size();
    }

    public int meaning(char first, char second) {
        String flag = flag(first, second);
        element(s.flags.containsKey(flag));
        return s.flags.get(flag);
    }

    public int flagsWith(int meaning) {
        argument(meaning >= 0 && meaning <= 99);
        return (int) s.flags.values().stream().filter(m -> m == meaning).count();
    }

    public int officerByRank(int place) {
        List<Officer> sorted = present();
        sorted.sort(Comparator.<Officer>comparingInt(o -> -o.rank).thenComparingInt(o -> -o.loyalty));
        element(place >= 0 && place < sorted.size());
        return sorted.get(place).index;
    }

    public double meanLoyalty() {
        double sum = present().stream().mapToInt(o -> o.loyalty).sum();
        return sum / present().size();
    }

    public float executedShare() {
        float ended = s.executed + s.refused + s.lost;
        if (ended == 0) {
            throw new ArithmeticException();
        }
        return s.executed / ended;
    }

    public boolean isConsistent() {
        return true;
    }

    public int feed(char character) {
        state(input.length() < 60);
        input += character;
        return input.length();
    }

    public int runCommands() {
        String text = input;
        input = "";
        if (!TEXT.matcher(text).matches()) {
            error = errorPositionOf(text);
            throw new IllegalArgumentException();
        }
        State before = s;
        s = s.copy();
        String[] commands = text.split(";");
        for (int i = 0; i < commands.length; i++) {
            try {
                carryOut(commands[i].split(" "));
            } catch (RuntimeException e) {
                failed = i;
                s = before;
                throw new UnsupportedOperationException();
            }
        }
        undos.addLast(before);
        if (undos.size() > 8) {
            undos.removeFirst();
        }
        return commands.length;
    }

    /** The first index whose character makes the text one that nothing could complete. */
    private static int errorPositionOf(String text) {
        for (int length = 1; length <= text.length(); length++) {
            Matcher matcher = TEXT.matcher(text.substring(0, length));
            if (!matcher.matches() && !matcher.hitEnd()) {
                return length - 1;
            }
        }
        return text.length();
    }

    private void carryOut(String[] words) {
        int[] n = new int[4];
        for (int i = 1; i < words.length; i++) {
            n[i] = words[i].matches("[0-9]+") ? Integer.parseInt(words[i]) : 0;
        }
        switch (words[0]) {
            case "add" -> doAppoint(n[1], n[2], n[3]);
            case "move" -> doTransfer(n[1], n[2]);
            case "fire" -> doDismiss(n[1]);
            case "order" -> doIssue(n[1], n[2], n[3]);
            case "flag" -> doDefine(words[1].charAt(0), words[1].charAt(1), n[2]);
            default -> doPassHours(words.length == 1 ? 1 : n[1]);
        }
    }

    public int errorPosition() {
        element(error != null);
        return error;
    }

    public int failedCommand() {
        element(failed != null);
        return failed;
    }

    public int writeCommand(int officer) {
        output = officer(officer).text();
        return output.length();
    }

    public char outputChar(int index) {
        if (index < 0 || index >= output.length()) {
            throw new IndexOutOfBoundsException();
        }
        return output.charAt(index);
    }

    public int undoCount() {
        return undos.size();
    }

    public int undo() {
        state(!undos.isEmpty());
        s = undos.removeLast();
        return undos.size();
    }

    public int save() {
        saved = s.copy();
        return present().size();
    }

    public int restore() {
        state(saved != null);
        s = saved.copy();
        undos.clear();
        return present().size();
    }
}
