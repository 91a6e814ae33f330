import java.util.NoSuchElementException;

/** A navy with a chain of command. What each call promises stands in the document. */
public final class CommandChain {
    private static final int MOST_OFFICERS = 12;
    private static final int MOST_ORDERS = 6;
    private static final int MOST_FLAGS = 20;
    private static final int MOST_UNDOS = 8;
    private static final int MOST_HOURS = 24;
    private static final int LONGEST_TEXT = 60;
    private static final int ADMIRAL = 0;
    private static final int HIGHEST_RANK = 9;
    private static final int FULL_LOYALTY = 100;
    private static final int GREATEST_SEVERITY = 100;
    private static final int GREATEST_MEANING = 99;
    private static final int LAST_REFUSAL = 3;
    private static final int LETTERS = 26;
    private static final int NONE = -1;

    // An action that can't be done answers one of these. They are numbers, not exceptions,
    // so that runCommands can tell a command that fails without catching anything.
    private static final int WRONG_INDEX = -1;
    private static final int WRONG_ARGUMENT = -2;
    private static final int WRONG_STATE = -3;
    private static final int NOT_SUPPORTED = -4;
    private static final int NO_ELEMENT = -5;

    private final Navy now;
    private final Navy before;
    private final Navy saved;
    private final History history;
    private final Script script;
    private final Text output;
    private boolean hasSaved;
    private int keptErrorPosition;
    private int keptFailedCommand;

    public CommandChain() {
        now = new Navy();
        before = new Navy();
        saved = new Navy();
        history = new History();
        script = new Script();
        output = new Text();
        hasSaved = false;
        keptErrorPosition = NONE;
        keptFailedCommand = NONE;
    }

    public int appoint(int superior, int rank, int loyalty)
            throws IndexOutOfBoundsException, IllegalArgumentException, IllegalStateException {
        before.copyFrom(now);
        return record(now.enlist(superior, rank, loyalty));
    }

    public int promote(int officer) throws IndexOutOfBoundsException, IllegalStateException {
        before.copyFrom(now);
        return record(now.raiseRank(officer));
    }

    public int transfer(int officer, int superior)
            throws IndexOutOfBoundsException, IllegalArgumentException,
            UnsupportedOperationException, IllegalStateException {
        before.copyFrom(now);
        return record(now.move(officer, superior));
    }

    public int dismiss(int officer) throws IndexOutOfBoundsException, IllegalArgumentException {
        before.copyFrom(now);
        return record(now.fire(officer));
    }

    public int issue(int from, int to, int severity)
            throws IndexOutOfBoundsException, IllegalArgumentException,
            IllegalStateException, UnsupportedOperationException {
        before.copyFrom(now);
        return record(now.giveOrder(from, to, severity));
    }

    public int passHours(int hours) throws IllegalArgumentException {
        before.copyFrom(now);
        return record(now.letHoursPass(hours));
    }

    public int define(char first, char second, int meaning)
            throws IllegalArgumentException, IllegalStateException {
        before.copyFrom(now);
        return record(now.book.assign(first, second, meaning));
    }

    public int erase(char first, char second) throws IllegalArgumentException, NoSuchElementException {
        before.copyFrom(now);
        return record(now.book.remove(first, second));
    }

    public int hour() {
        return now.hour;
    }

    public int officerCount() {
        return now.officers.countServing();
    }

    public int appointedCount() {
        return now.officers.appointed;
    }

    public boolean isInNavy(int officer) {
        return now.officers.serves(officer);
    }

    public int rank(int officer) throws IndexOutOfBoundsException {
        requireOfficer(officer);
        return now.officers.rank[officer];
    }

    public int loyalty(int officer) throws IndexOutOfBoundsException {
        requireOfficer(officer);
        return now.officers.loyalty[officer];
    }

    public int refusals(int officer) throws IndexOutOfBoundsException {
        requireOfficer(officer);
        return now.officers.refusals[officer];
    }

    public int superior(int officer) throws IndexOutOfBoundsException, NoSuchElementException {
        requireOfficer(officer);
        if (officer == ADMIRAL) {
            throw new NoSuchElementException("the admiral has no superior");
        }
        return now.officers.superior[officer];
    }

    public int subordinates(int officer) throws IndexOutOfBoundsException {
        requireOfficer(officer);
        return now.officers.countSubordinates(officer);
    }

    public int depth(int officer) throws IndexOutOfBoundsException {
        requireOfficer(officer);
        return now.officers.climbDepth(officer);
    }

    public int depthFromTop(int officer) throws IndexOutOfBoundsException {
        requireOfficer(officer);
        return Officers.searchDepth(now.officers, ADMIRAL, officer, 0);
    }

    public int commandSize(int officer) throws IndexOutOfBoundsException {
        requireOfficer(officer);
        return Officers.sizeGoingDown(now.officers, officer, 0);
    }

    public int commandSizeByCounting(int officer) throws IndexOutOfBoundsException {
        requireOfficer(officer);
        return now.officers.countCommand(officer);
    }

    public boolean isAbove(int first, int second) throws IndexOutOfBoundsException {
        requireOfficer(first);
        requireOfficer(second);
        return now.officers.isOver(first, second);
    }

    public int commonSuperior(int first, int second) throws IndexOutOfBoundsException {
        requireOfficer(first);
        requireOfficer(second);
        return now.officers.lowestOverBoth(first, second);
    }

    public int greatestDepth() {
        return now.officers.deepest();
    }

    public int hoursFor(int from, int to) throws IndexOutOfBoundsException, IllegalStateException {
        requireOfficer(from);
        requireOfficer(to);
        requireWay(from, to);
        return now.officers.climbDepth(to) - now.officers.climbDepth(from);
    }

    public int greatestSeverity(int from, int to) throws IndexOutOfBoundsException, IllegalStateException {
        requireOfficer(from);
        requireOfficer(to);
        requireWay(from, to);
        return now.officers.leastLoyalty(from, to);
    }

    public int greatestSeverityByTrial(int from, int to)
            throws IndexOutOfBoundsException, IllegalStateException {
        requireOfficer(from);
        requireOfficer(to);
        requireWay(from, to);
        int severity = GREATEST_SEVERITY;
        while (severity > 0 && now.officers.firstRefuser(from, to, severity) != NONE) {
            severity--;
        }
        return severity;
    }

    public int firstRefusal(int from, int to, int severity)
            throws IndexOutOfBoundsException, IllegalArgumentException,
            IllegalStateException, NoSuchElementException {
        requireOfficer(from);
        requireOfficer(to);
        if (severity < 0 || severity > GREATEST_SEVERITY) {
            throw new IllegalArgumentException("the severity is out of range");
        }
        requireWay(from, to);
        int refuser = now.officers.firstRefuser(from, to, severity);
        if (refuser == NONE) {
            throw new NoSuchElementException("nobody would refuse the order");
        }
        return refuser;
    }

    public int orderCount() {
        return now.orders.count;
    }

    public int holder(int order) throws IndexOutOfBoundsException {
        requireOrder(order);
        return now.orders.holder[order];
    }

    public int target(int order) throws IndexOutOfBoundsException {
        requireOrder(order);
        return now.orders.target[order];
    }

    public int severity(int order) throws IndexOutOfBoundsException {
        requireOrder(order);
        return now.orders.severity[order];
    }

    public int executedOrders() {
        return now.executed;
    }

    public int refusedOrders() {
        return now.refused;
    }

    public int lostOrders() {
        return now.lost;
    }

    public int flagCount() {
        return now.book.count;
    }

    public int meaning(char first, char second) throws IllegalArgumentException, NoSuchElementException {
        int found = now.book.lookUp(first, second);
        if (found < 0) {
            throwFor(found);
        }
        return found;
    }

    public int flagsWith(int meaning) throws IllegalArgumentException {
        if (meaning < 0 || meaning > GREATEST_MEANING) {
            throw new IllegalArgumentException("the meaning is out of range");
        }
        return now.book.countMeaning(meaning);
    }

    public int officerByRank(int place) throws NoSuchElementException {
        int officer = now.officers.atPlace(place);
        if (officer == NONE) {
            throw new NoSuchElementException("no such place");
        }
        return officer;
    }

    public double meanLoyalty() {
        int officers = now.officers.countServing();
        return officers > 0 ? (double) now.officers.sumLoyalty() / (double) officers : 0.0;
    }

    public float executedShare() throws ArithmeticException {
        int ended = now.executed + now.refused + now.lost;
        if (ended <= 0) {
            throw new ArithmeticException("no order has ended");
        }
        return (float) now.executed / (float) ended;
    }

    public boolean isConsistent() {
        for (int officer = 0; officer < MOST_OFFICERS; officer++) {
            if (now.officers.serves(officer) && !now.officers.waysAgree(officer)) {
                return false;
            }
        }
        return true;
    }

    public int feed(char character) throws IllegalStateException {
        if (!script.text.add(character)) {
            throw new IllegalStateException("the input buffer is full");
        }
        return script.text.length;
    }

    public int runCommands() throws IllegalArgumentException, UnsupportedOperationException {
        before.copyFrom(now);
        int commands = script.readAll();
        if (commands == NONE) {
            keptErrorPosition = script.at;
            script.text.clear();
            throw new IllegalArgumentException("the text is malformed");
        }
        int failed = carryOutAll(commands);
        script.text.clear();
        if (failed != NONE) {
            now.copyFrom(before);
            keptFailedCommand = failed;
            throw new UnsupportedOperationException("a command failed");
        }
        return record(commands);
    }

    public int errorPosition() throws NoSuchElementException {
        if (keptErrorPosition == NONE) {
            throw new NoSuchElementException("no text was malformed");
        }
        return keptErrorPosition;
    }

    public int failedCommand() throws NoSuchElementException {
        if (keptFailedCommand == NONE) {
            throw new NoSuchElementException("no command failed");
        }
        return keptFailedCommand;
    }

    public int writeCommand(int officer) throws IndexOutOfBoundsException {
        requireOfficer(officer);
        output.clear();
        Officers.write(now.officers, officer, 0, output);
        return output.length;
    }

    public char outputChar(int index) throws IndexOutOfBoundsException {
        if (index < 0 || index >= output.length) {
            throw new IndexOutOfBoundsException("no such character of the output");
        }
        return output.characters[index];
    }

    public int undoCount() {
        return history.count;
    }

    public int undo() throws IllegalStateException {
        Navy earlier = history.takeLatest();
        if (earlier == null) {
            throw new IllegalStateException("no call can be undone");
        }
        now.copyFrom(earlier);
        return history.count;
    }

    public int save() {
        saved.copyFrom(now);
        hasSaved = true;
        return saved.officers.countServing();
    }

    public int restore() throws IllegalStateException {
        if (!hasSaved) {
            throw new IllegalStateException("no state was saved");
        }
        now.copyFrom(saved);
        history.clear();
        return now.officers.countServing();
    }

    private void requireOfficer(int officer) {
        if (!now.officers.serves(officer)) {
            throw new IndexOutOfBoundsException("no such officer in the navy");
        }
    }

    private void requireOrder(int order) {
        if (order < 0 || order >= now.orders.count) {
            throw new IndexOutOfBoundsException("no such order");
        }
    }

    private void requireWay(int from, int to) {
        if (!now.officers.isOver(from, to)) {
            throw new IllegalStateException("the second officer is not below the first one");
        }
    }

    /** Answers what an action answered, after the state before it was kept for undo. */
    private int record(int answer) {
        if (answer < 0) {
            throwFor(answer);
        }
        history.keep(before);
        return answer;
    }

    private static void throwFor(int refusal) {
        switch (refusal) {
            case WRONG_INDEX:
                throw new IndexOutOfBoundsException("no such officer in the navy");
            case WRONG_ARGUMENT:
                throw new IllegalArgumentException("an argument is out of range");
            case WRONG_STATE:
                throw new IllegalStateException("the state does not allow it");
            case NOT_SUPPORTED:
                throw new UnsupportedOperationException("this can't be done now");
            default:
                throw new NoSuchElementException("the flag is not in the code book");
        }
    }

    /** Answers the index of the command that failed, or NONE. */
    private int carryOutAll(int commands) {
        script.rewind();
        for (int command = 0; command < commands; command++) {
            if (!script.readNext() || carryOut() < 0) {
                return command;
            }
        }
        return NONE;
    }

    private int carryOut() {
        if (script.verb == Verb.ADD) {
            return now.enlist(script.first, script.second, script.third);
        }
        if (script.verb == Verb.MOVE) {
            return now.move(script.first, script.second);
        }
        if (script.verb == Verb.FIRE) {
            return now.fire(script.first);
        }
        if (script.verb == Verb.ORDER) {
            return now.giveOrder(script.first, script.second, script.third);
        }
        if (script.verb == Verb.FLAG) {
            return now.book.assign(script.first, script.second, script.third);
        }
        return now.letHoursPass(script.first);
    }

    /** All that undo, save and restore bring back, and the actions on it. */
    private static final class Navy {
        final Officers officers = new Officers();
        final Orders orders = new Orders();
        final CodeBook book = new CodeBook();
        int hour;
        int executed;
        int refused;
        int lost;

        void copyFrom(Navy other) {
            officers.copyFrom(other.officers);
            orders.copyFrom(other.orders);
            book.copyFrom(other.book);
            hour = other.hour;
            executed = other.executed;
            refused = other.refused;
            lost = other.lost;
        }

        int enlist(int superior, int rank, int loyalty) {
            if (!officers.serves(superior)) {
                return WRONG_INDEX;
            }
            if (rank < 1 || rank >= officers.rank[superior] || loyalty < 0 || loyalty > FULL_LOYALTY) {
                return WRONG_ARGUMENT;
            }
            if (officers.appointed >= MOST_OFFICERS) {
                return WRONG_STATE;
            }
            return officers.add(superior, rank, loyalty);
        }

        int raiseRank(int officer) {
            if (!officers.serves(officer)) {
                return WRONG_INDEX;
            }
            int superior = officers.superior[officer];
            if (superior == NONE || officers.rank[officer] + 1 >= officers.rank[superior]) {
                return WRONG_STATE;
            }
            officers.rank[officer]++;
            return officers.rank[officer];
        }

        int move(int officer, int superior) {
            if (!officers.serves(officer) || !officers.serves(superior)) {
                return WRONG_INDEX;
            }
            if (officer == ADMIRAL || officer == superior) {
                return WRONG_ARGUMENT;
            }
            if (officers.isOver(officer, superior)) {
                return NOT_SUPPORTED;
            }
            if (officers.rank[superior] <= officers.rank[officer]) {
                return WRONG_STATE;
            }
            officers.superior[officer] = superior;
            return Officers.sizeGoingDown(officers, superior, 0);
        }

        int fire(int officer) {
            if (!officers.serves(officer)) {
                return WRONG_INDEX;
            }
            if (officer == ADMIRAL) {
                return WRONG_ARGUMENT;
            }
            int subordinates = officers.countSubordinates(officer);
            discharge(officer);
            return subordinates;
        }

        int giveOrder(int from, int to, int severity) {
            if (!officers.serves(from) || !officers.serves(to)) {
                return WRONG_INDEX;
            }
            if (severity < 0 || severity > GREATEST_SEVERITY) {
                return WRONG_ARGUMENT;
            }
            if (!officers.isOver(from, to)) {
                return WRONG_STATE;
            }
            if (orders.count >= MOST_ORDERS) {
                return NOT_SUPPORTED;
            }
            return orders.add(from, to, severity);
        }

        int letHoursPass(int hours) {
            if (hours < 1 || hours > MOST_HOURS) {
                return WRONG_ARGUMENT;
            }
            int executedBefore = executed;
            for (int passed = 0; passed < hours; passed++) {
                orders.visited = 0;
                for (int visit = 0; visit < MOST_ORDERS && orders.visited < orders.count; visit++) {
                    visitNext();
                }
                hour++;
            }
            return executed - executedBefore;
        }

        private void visitNext() {
            int order = orders.visited;
            int target = orders.target[order];
            int next = officers.nextOnWay(orders.holder[order], target);
            if (next == NONE) {
                orders.remove(order);
                lost++;
            } else if (officers.loyalty[next] < orders.severity[order]) {
                orders.remove(order);
                refused++;
                officers.refusals[next]++;
                if (officers.refusals[next] >= LAST_REFUSAL) {
                    discharge(next);
                }
            } else if (next == target) {
                orders.remove(order);
                executed++;
                officers.loyalty[next] = Math.min(FULL_LOYALTY, officers.loyalty[next] + 2);
            } else {
                orders.holder[order] = next;
                orders.visited++;
            }
        }

        private void discharge(int officer) {
            officers.remove(officer);
            // From the last order down, so that removing one moves none that is still to be seen.
            for (int order = orders.count - 1; order >= 0; order--) {
                if (orders.holder[order] == officer) {
                    orders.remove(order);
                    lost++;
                }
            }
        }
    }

    /** The officers and their tree. Whoever has no superior has NONE: the admiral and the dismissed. */
    private static final class Officers {
        final int[] rank = new int[MOST_OFFICERS];
        final int[] loyalty = new int[MOST_OFFICERS];
        final int[] refusals = new int[MOST_OFFICERS];
        final int[] superior = new int[MOST_OFFICERS];
        final boolean[] serving = new boolean[MOST_OFFICERS];
        int appointed;

        Officers() {
            rank[ADMIRAL] = HIGHEST_RANK;
            loyalty[ADMIRAL] = FULL_LOYALTY;
            superior[ADMIRAL] = NONE;
            serving[ADMIRAL] = true;
            appointed = 1;
        }

        void copyFrom(Officers other) {
            System.arraycopy(other.rank, 0, rank, 0, MOST_OFFICERS);
            System.arraycopy(other.loyalty, 0, loyalty, 0, MOST_OFFICERS);
            System.arraycopy(other.refusals, 0, refusals, 0, MOST_OFFICERS);
            System.arraycopy(other.superior, 0, superior, 0, MOST_OFFICERS);
            for (int officer = 0; officer < MOST_OFFICERS; officer++) {
                serving[officer] = other.serving[officer];
            }
            appointed = other.appointed;
        }

        boolean serves(int officer) {
            return officer >= 0 && officer < MOST_OFFICERS && serving[officer];
        }

        /** The caller has seen that there is room. */
        int add(int itsSuperior, int itsRank, int itsLoyalty) {
            int officer = appointed;
            rank[officer] = itsRank;
            loyalty[officer] = itsLoyalty;
            refusals[officer] = 0;
            superior[officer] = itsSuperior;
            serving[officer] = true;
            appointed++;
            return officer;
        }

        void remove(int officer) {
            for (int other = 0; other < appointed; other++) {
                if (superior[other] == officer) {
                    superior[other] = superior[officer];
                }
            }
            superior[officer] = NONE;
            serving[officer] = false;
        }

        int countServing() {
            int count = 0;
            for (int officer = 0; officer < appointed; officer++) {
                if (serving[officer]) {
                    count++;
                }
            }
            return count;
        }

        int sumLoyalty() {
            int sum = 0;
            for (int officer = 0; officer < appointed; officer++) {
                if (serving[officer]) {
                    sum += loyalty[officer];
                }
            }
            return sum;
        }

        int countSubordinates(int officer) {
            int count = 0;
            for (int other = 0; other < appointed; other++) {
                if (superior[other] == officer) {
                    count++;
                }
            }
            return count;
        }

        int climbDepth(int officer) {
            int depth = 0;
            int above = superior[officer];
            while (above != NONE && depth < MOST_OFFICERS) {
                above = superior[above];
                depth++;
            }
            return depth;
        }

        private static int searchDepth(Officers officers, int top, int officer, int level) {
            if (top == officer) {
                return level;
            }
            for (int other = 0; other < officers.appointed && level < MOST_OFFICERS; other++) {
                if (officers.superior[other] == top) {
                    int found = searchDepth(officers, other, officer, level + 1);
                    if (found != NONE) {
                        return found;
                    }
                }
            }
            return NONE;
        }

        private static int sizeGoingDown(Officers officers, int top, int level) {
            int size = 1;
            for (int other = 0; other < officers.appointed && level < MOST_OFFICERS; other++) {
                if (officers.superior[other] == top) {
                    size += sizeGoingDown(officers, other, level + 1);
                }
            }
            return size;
        }

        private static void write(Officers officers, int top, int level, Text text) {
            text.addNumber(top);
            boolean opened = false;
            for (int other = 0; other < officers.appointed && level < MOST_OFFICERS; other++) {
                if (officers.superior[other] == top) {
                    text.add(opened ? ',' : '(');
                    opened = true;
                    write(officers, other, level + 1, text);
                }
            }
            if (opened) {
                text.add(')');
            }
        }

        int countCommand(int officer) {
            int size = 1;
            for (int other = 0; other < appointed; other++) {
                if (serving[other] && isOver(officer, other)) {
                    size++;
                }
            }
            return size;
        }

        boolean waysAgree(int officer) {
            int above = superior[officer];
            return climbDepth(officer) == searchDepth(this, ADMIRAL, officer, 0)
                    && sizeGoingDown(this, officer, 0) == countCommand(officer)
                    && (above == NONE || rank[above] > rank[officer]);
        }

        /** Answers the officer after top on the way down to bottom, or NONE if there is no such way. */
        int nextOnWay(int top, int bottom) {
            int at = bottom;
            for (int step = 0; step < MOST_OFFICERS && at != NONE; step++) {
                if (superior[at] == top) {
                    return at;
                }
                at = superior[at];
            }
            return NONE;
        }

        boolean isOver(int first, int second) {
            return nextOnWay(first, second) != NONE;
        }

        int lowestOverBoth(int first, int second) {
            int at = first;
            for (int step = 0; step < MOST_OFFICERS && at != second && !isOver(at, second); step++) {
                if (superior[at] == NONE) {
                    return at;
                }
                at = superior[at];
            }
            return at;
        }

        int deepest() {
            int deepest = 0;
            for (int officer = 0; officer < appointed; officer++) {
                deepest = Math.max(deepest, climbDepth(officer));
            }
            return deepest;
        }

        int leastLoyalty(int from, int to) {
            int least = FULL_LOYALTY;
            int at = to;
            for (int step = 0; step < MOST_OFFICERS && at != from && at != NONE; step++) {
                least = Math.min(least, loyalty[at]);
                at = superior[at];
            }
            return least;
        }

        /** Climbs, so the refuser seen last is the first one on the way. */
        int firstRefuser(int from, int to, int severity) {
            int refuser = NONE;
            int at = to;
            for (int step = 0; step < MOST_OFFICERS && at != from && at != NONE; step++) {
                if (loyalty[at] < severity) {
                    refuser = at;
                }
                at = superior[at];
            }
            return refuser;
        }

        int atPlace(int place) {
            for (int officer = 0; officer < appointed; officer++) {
                if (serving[officer] && countBefore(officer) == place) {
                    return officer;
                }
            }
            return NONE;
        }

        private int countBefore(int officer) {
            int count = 0;
            for (int other = 0; other < appointed; other++) {
                if (serving[other] && isSortedBefore(other, officer)) {
                    count++;
                }
            }
            return count;
        }

        private boolean isSortedBefore(int first, int second) {
            if (rank[first] != rank[second]) {
                return rank[first] > rank[second];
            }
            if (loyalty[first] != loyalty[second]) {
                return loyalty[first] > loyalty[second];
            }
            return first < second;
        }
    }

    /** The orders under way; in an hour, the first ones of them are those already visited. */
    private static final class Orders {
        final int[] holder = new int[MOST_ORDERS];
        final int[] target = new int[MOST_ORDERS];
        final int[] severity = new int[MOST_ORDERS];
        int count;
        int visited;

        void copyFrom(Orders other) {
            System.arraycopy(other.holder, 0, holder, 0, MOST_ORDERS);
            System.arraycopy(other.target, 0, target, 0, MOST_ORDERS);
            System.arraycopy(other.severity, 0, severity, 0, MOST_ORDERS);
            count = other.count;
            visited = other.visited;
        }

        /** The caller has seen that there is room. */
        int add(int from, int to, int itsSeverity) {
            int order = count;
            holder[order] = from;
            target[order] = to;
            severity[order] = itsSeverity;
            count++;
            return order;
        }

        void remove(int order) {
            for (int later = order + 1; later < count; later++) {
                holder[later - 1] = holder[later];
                target[later - 1] = target[later];
                severity[later - 1] = severity[later];
            }
            count--;
            if (order < visited) {
                visited--;
            }
        }
    }

    /** The flags in no promised order. */
    private static final class CodeBook {
        final int[] flags = new int[MOST_FLAGS];
        final int[] meanings = new int[MOST_FLAGS];
        int count;

        void copyFrom(CodeBook other) {
            System.arraycopy(other.flags, 0, flags, 0, MOST_FLAGS);
            System.arraycopy(other.meanings, 0, meanings, 0, MOST_FLAGS);
            count = other.count;
        }

        int assign(int first, int second, int meaning) {
            if (!isLetter(first) || !isLetter(second) || meaning < 0 || meaning > GREATEST_MEANING) {
                return WRONG_ARGUMENT;
            }
            int place = find(first, second);
            if (place == NONE) {
                if (count >= MOST_FLAGS) {
                    return WRONG_STATE;
                }
                place = count;
                flags[place] = number(first, second);
                count++;
            }
            meanings[place] = meaning;
            return count;
        }

        int remove(int first, int second) {
            int meaning = lookUp(first, second);
            int place = find(first, second);
            if (meaning >= 0 && place != NONE) {
                count--;
                flags[place] = flags[count];
                meanings[place] = meanings[count];
            }
            return meaning;
        }

        int lookUp(int first, int second) {
            if (!isLetter(first) || !isLetter(second)) {
                return WRONG_ARGUMENT;
            }
            int place = find(first, second);
            return place == NONE ? NO_ELEMENT : meanings[place];
        }

        int countMeaning(int meaning) {
            int flagsFound = 0;
            for (int place = 0; place < count; place++) {
                if (meanings[place] == meaning) {
                    flagsFound++;
                }
            }
            return flagsFound;
        }

        private int find(int first, int second) {
            for (int place = 0; place < count; place++) {
                if (flags[place] == number(first, second)) {
                    return place;
                }
            }
            return NONE;
        }

        private static int number(int first, int second) {
            return (first - 'a') * LETTERS + second - 'a';
        }

        private static boolean isLetter(int character) {
            return character >= 'a' && character <= 'z';
        }
    }

    /** The states before the latest recorded calls, in a ring whose places are used again. */
    private static final class History {
        private final Navy[] kept = new Navy[MOST_UNDOS];
        private int latest;
        private int count;

        History() {
            for (int place = 0; place < MOST_UNDOS; place++) {
                kept[place] = new Navy();
            }
        }

        void keep(Navy navy) {
            latest = (latest + 1) % MOST_UNDOS;
            count = Math.min(MOST_UNDOS, count + 1);
            Navy place = kept[latest];
            if (place != null) {
                place.copyFrom(navy);
            }
        }

        /** Answers null if there is none. */
        Navy takeLatest() {
            if (count == 0) {
                return null;
            }
            Navy navy = kept[latest];
            latest = (latest + MOST_UNDOS - 1) % MOST_UNDOS;
            count--;
            return navy;
        }

        void clear() {
            count = 0;
        }
    }

    /** At most sixty characters: the input buffer, and the output, which never needs more than forty. */
    private static final class Text {
        final char[] characters = new char[LONGEST_TEXT];
        int length;

        boolean add(char character) {
            if (length >= LONGEST_TEXT) {
                return false;
            }
            characters[length] = character;
            length++;
            return true;
        }

        void addNumber(int number) {
            if (number >= 10) {
                add((char) ('0' + number / 10));
            }
            add((char) ('0' + number % 10));
        }

        void clear() {
            length = 0;
        }
    }

    /** What a command does, and the word that it begins with. No word begins another one. */
    private enum Verb {
        ADD("add"),
        MOVE("move"),
        FIRE("fire"),
        ORDER("order"),
        FLAG("flag"),
        WAIT("wait");

        private static final Verb[] ALL = values();

        final String word;

        Verb(String word) {
            this.word = word;
        }
    }

    /** The input buffer and the command that was read out of it last. */
    private static final class Script {
        final Text text = new Text();
        int at;
        Verb verb;
        int first;
        int second;
        int third;

        void rewind() {
            at = 0;
        }

        /** Answers the number of commands, or NONE for a malformed text: then at is its error position. */
        int readAll() {
            rewind();
            for (int commands = 1; commands <= LONGEST_TEXT; commands++) {
                if (!readNext()) {
                    return NONE;
                }
                if (at == text.length) {
                    return commands;
                }
            }
            return NONE;
        }

        boolean readNext() {
            if (at > 0 && !accept(';')) {
                return false;
            }
            verb = readWord();
            if (verb == Verb.ADD) {
                return readFirst(2) && readSecond(1) && readThird(3);
            }
            if (verb == Verb.MOVE) {
                return readFirst(2) && readSecond(2);
            }
            if (verb == Verb.FIRE) {
                return readFirst(2);
            }
            if (verb == Verb.ORDER) {
                return readFirst(2) && readSecond(2) && readThird(3);
            }
            if (verb == Verb.FLAG) {
                return accept(' ') && readLetters() && readThird(2);
            }
            return verb == Verb.WAIT && readHours();
        }

        /** Answers null where no word stands; then at is behind what still could begin one. */
        private Verb readWord() {
            int longest = 0;
            for (int each = 0; each < Verb.ALL.length; each++) {
                String word = Verb.ALL[each].word;
                int alike = countAlike(word);
                longest = Math.max(longest, alike);
                if (alike == word.length()) {
                    at += alike;
                    return Verb.ALL[each];
                }
            }
            at += longest;
            return null;
        }

        private int countAlike(String word) {
            int alike = 0;
            while (alike < word.length() && stands(at + alike, word.charAt(alike))) {
                alike++;
            }
            return alike;
        }

        private boolean readFirst(int mostDigits) {
            first = readNumber(mostDigits);
            return first != NONE;
        }

        private boolean readSecond(int mostDigits) {
            second = readNumber(mostDigits);
            return second != NONE;
        }

        private boolean readThird(int mostDigits) {
            third = readNumber(mostDigits);
            return third != NONE;
        }

        private boolean readHours() {
            if (stands(at, ' ')) {
                return readFirst(2);
            }
            first = 1;
            return true;
        }

        private boolean readLetters() {
            first = readBetween('a', 'z');
            if (first == NONE) {
                return false;
            }
            second = readBetween('a', 'z');
            return second != NONE;
        }

        /** Reads a blank and a number behind it. */
        private int readNumber(int mostDigits) {
            if (!accept(' ')) {
                return NONE;
            }
            int number = 0;
            for (int digits = 0; digits < mostDigits; digits++) {
                int digit = readBetween('0', '9');
                if (digit == NONE) {
                    return digits > 0 ? number : NONE;
                }
                number = number * 10 + digit - '0';
            }
            return number;
        }

        private int readBetween(char least, char greatest) {
            if (at >= text.length || text.characters[at] < least || text.characters[at] > greatest) {
                return NONE;
            }
            int character = text.characters[at];
            at++;
            return character;
        }

        private boolean accept(char character) {
            if (!stands(at, character)) {
                return false;
            }
            at++;
            return true;
        }

        private boolean stands(int index, char character) {
            return index < text.length && text.characters[index] == character;
        }
    }
}
