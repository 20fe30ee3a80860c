/**
 * Lines of a post that run late: which loads miss what they should go on with, whether a line
 * waits for them, or one is hired, so that all together do the least harm.
 *
 * <p>Between two calls the times of all lines and loads are always those of what is chosen: each
 * call that changes something ends with settle(), so that the calls that ask only read.
 */
public final class LateRoutes {
    public static final int UNKNOWN = -11, OUTSIDE = -12, STATE = -13, ROOM = -14;

    private static final int LAST_PLACE = 9;
    private static final int MAX_LINES = 12;
    private static final int MAX_LOADS = 6;
    private static final int MAX_OPTIONS = 4;
    /** MAX_OPTIONS to the power of MAX_LOADS: no more choices than these can be tried. */
    private static final int MAX_CHOICES = 4096;

    private static final long MAX_TIME = 10000;
    private static final long MAX_DUE = 20000;
    private static final int MAX_WEIGHT = 100;
    private static final long MAX_COST = 10000;
    private static final long MAX_WAIT = 600;
    private static final long MAX_DELAY = 2000;

    private static final int GO_ON = 0;
    private static final int HOLD = 1;
    private static final int HIRE = 2;

    private static final long CHANGE_MINUTES = 10;
    private static final long HIRE_MINUTES = 60;
    private static final long LEFT_MINUTES = 1440;

    private final Line[] lines = new Line[MAX_LINES];
    private int lineCount;
    private final Load[] loads = new Load[MAX_LOADS];
    /** The same loads, in the order in which their first lines leave. */
    private final Load[] loadsByLeaving = new Load[MAX_LOADS];
    private int loadCount;

    public LateRoutes() {
        lineCount = 0;
        loadCount = 0;
    }

    public int line(int from, int to, long leaves, long arrives) {
        if (!isPlace(from) || !isPlace(to) || from == to) {
            return OUTSIDE;
        }
        if (!isWithin(leaves, 0, MAX_TIME) || !isWithin(arrives, 0, MAX_TIME) || arrives <= leaves) {
            return OUTSIDE;
        }
        if (lineCount >= lines.length) {
            return ROOM;
        }
        lines[lineCount] = new Line(lineCount + 1, from, to, leaves, arrives);
        lineCount++;
        settle();
        return lineCount;
    }

    public int load(int line, int to, long due, int weight) {
        Line first = findLine(line);
        if (first == null) {
            return UNKNOWN;
        }
        if (!isPlace(to) || !isWithin(due, 0, MAX_DUE) || !isWithin(weight, 1, MAX_WEIGHT)) {
            return OUTSIDE;
        }
        if (loadCount >= loads.length || loadCount >= loadsByLeaving.length) {
            return ROOM;
        }
        Load added = new Load(first, to, due, weight);
        loads[loadCount] = added;
        fileByLeaving(added);
        loadCount++;
        settle();
        return loadCount;
    }

    public int option(int load, int kind, int line, long cost) {
        Load owner = findLoad(load);
        Line onward = kind == HIRE ? null : findLine(line);
        if (owner == null || (kind != HIRE && onward == null)) {
            return UNKNOWN;
        }
        if (!isWithin(kind, GO_ON, HIRE) || !isWithin(cost, 0, MAX_COST)) {
            return OUTSIDE;
        }
        if (owner.isDirect() || (onward != null && !owner.canGoOnBy(onward))) {
            return STATE;
        }
        if (!owner.hasRoom()) {
            return ROOM;
        }
        int number = owner.addOption(new Option(kind, onward, cost));
        settle();
        return number;
    }

    public int waits(int line, long most) {
        Line waiting = findLine(line);
        if (waiting == null) {
            return UNKNOWN;
        }
        if (!isWithin(most, 0, MAX_WAIT)) {
            return OUTSIDE;
        }
        int before = (int) waiting.most;
        waiting.most = most;
        settle();
        return before;
    }

    public int late(int line, long by) {
        Line delayed = findLine(line);
        if (delayed == null) {
            return UNKNOWN;
        }
        if (!isWithin(by, 0, MAX_DELAY)) {
            return OUTSIDE;
        }
        delayed.delay = by;
        settle();
        return countFailing();
    }

    public int tell(int line, long by) {
        Line told = findLine(line);
        if (told == null) {
            return UNKNOWN;
        }
        if (!isWithin(by, 0, MAX_DELAY)) {
            return OUTSIDE;
        }
        for (int i = 0; i < loadCount; i++) {
            loads[i].rememberArrival();
            if (loads[i].concerns(told)) {
                loads[i].pickFirst();
            }
        }
        told.delay = by;
        settle();
        return countMoved();
    }

    public long solve() {
        for (int i = 0; i < loadCount; i++) {
            loads[i].pickFirst();
        }
        long leastHarm = Long.MAX_VALUE;
        int fewestActs = 0;
        boolean untried = true;
        // Choices come with the least options of the first loads first, so of equal ones the
        // first that is met is the one to keep.
        for (int tried = 0; untried && tried < MAX_CHOICES; tried++) {
            settle();
            long harm = sumHarm();
            int actCount = countActs();
            if (harm < leastHarm || (harm == leastHarm && actCount < fewestActs)) {
                leastHarm = harm;
                fewestActs = actCount;
                keepChoice();
            }
            untried = pickNextChoice();
        }
        takeKeptChoice();
        settle();
        return leastHarm;
    }

    public int chosen(int load) {
        Load asked = findLoad(load);
        return asked == null ? UNKNOWN : asked.picked;
    }

    public long arrival(int load) {
        Load asked = findLoad(load);
        return asked == null ? UNKNOWN : asked.arrivesAt;
    }

    public long departs(int line) {
        Line asked = findLine(line);
        return asked == null ? UNKNOWN : asked.departsAt;
    }

    public int none(int i) {
        int met = 0;
        for (int n = 0; n < loadCount; n++) {
            if (loads[n].isLeft) {
                if (met == i) {
                    return n + 1;
                }
                met++;
            }
        }
        return -1;
    }

    public int acts() {
        return countActs();
    }

    private static boolean isPlace(int place) {
        return isWithin(place, 0, LAST_PLACE);
    }

    private static boolean isWithin(long value, long least, long greatest) {
        return value >= least && value <= greatest;
    }

    private Line findLine(int number) {
        return number >= 1 && number <= lineCount ? lines[number - 1] : null;
    }

    private Load findLoad(int number) {
        return number >= 1 && number <= loadCount ? loads[number - 1] : null;
    }

    /** Called while loadCount does not count the added load yet. */
    private void fileByLeaving(Load added) {
        int at = loadCount;
        while (at > 0 && loadsByLeaving[at - 1].first.leaves > added.first.leaves) {
            loadsByLeaving[at] = loadsByLeaving[at - 1];
            at--;
        }
        loadsByLeaving[at] = added;
    }

    /**
     * Works out all times by what is chosen. A line waits only for loads whose first line leaves
     * before it does; so with the loads in the order in which their first lines leave, all that
     * hold a line up have done so before a load that begins on it comes.
     */
    private void settle() {
        for (int i = 0; i < lineCount; i++) {
            lines[i].forgetWaiting();
        }
        for (int i = 0; i < loadCount; i++) {
            loadsByLeaving[i].comeAndHold();
        }
        for (int i = 0; i < loadCount; i++) {
            loads[i].arrive();
        }
    }

    private int countFailing() {
        int count = 0;
        for (int i = 0; i < loadCount; i++) {
            if (loads[i].isLeft || loads[i].minutesBehind() > 0) {
                count++;
            }
        }
        return count;
    }

    private int countMoved() {
        int count = 0;
        for (int i = 0; i < loadCount; i++) {
            if (loads[i].hasMoved()) {
                count++;
            }
        }
        return count;
    }

    private int countActs() {
        int count = 0;
        for (int i = 0; i < loadCount; i++) {
            if (loads[i].isAct()) {
                count++;
            }
        }
        return count;
    }

    private long sumHarm() {
        long sum = 0;
        for (int i = 0; i < loadCount; i++) {
            sum += loads[i].harm();
        }
        return sum;
    }

    /** The next choice, the last load's option going up fastest; false behind the last one. */
    private boolean pickNextChoice() {
        for (int i = loadCount - 1; i >= 0; i--) {
            if (loads[i].pickNext()) {
                return true;
            }
            loads[i].pickFirst();
        }
        return false;
    }

    private void keepChoice() {
        for (int i = 0; i < loadCount; i++) {
            loads[i].keepPicked();
        }
    }

    private void takeKeptChoice() {
        for (int i = 0; i < loadCount; i++) {
            loads[i].takeKept();
        }
    }

    private static final class Line {
        private final int number;
        private final int from;
        private final int to;
        private final long leaves;
        private final long arrives;
        private long delay;
        private long most;
        private long departsAt;

        Line(int number, int from, int to, long leaves, long arrives) {
            this.number = number;
            this.from = from;
            this.to = to;
            this.leaves = leaves;
            this.arrives = arrives;
            this.delay = 0;
            this.most = 0;
            this.departsAt = leaves;
        }

        void forgetWaiting() {
            departsAt = leaves + delay;
        }

        /** Departs not before the time, unless that is more than it may wait. */
        void holdUntil(long time) {
            if (time - (leaves + delay) <= most) {
                departsAt = Math.max(departsAt, time);
            }
        }

        long arrivesAt() {
            return arrives + (departsAt - leaves);
        }
    }

    private static final class Option {
        private final int kind;
        /** Null if something is hired. */
        private final Line onward;
        private final long cost;

        Option(int kind, Line onward, long cost) {
            this.kind = kind;
            this.onward = onward;
            this.cost = cost;
        }
    }

    private static final class Load {
        private final Line first;
        private final int to;
        private final long due;
        private final int weight;
        private final Option[] options = new Option[MAX_OPTIONS];
        private int optionCount;
        /** The chosen option's number; -1 without options. */
        private int picked;
        private int keptPick;
        private long coming;
        private long arrivesAt;
        private long arrivedBefore;
        private boolean isLeft;

        Load(Line first, int to, long due, int weight) {
            this.first = first;
            this.to = to;
            this.due = due;
            this.weight = weight;
            this.optionCount = 0;
            this.picked = -1;
            this.keptPick = -1;
        }

        boolean isDirect() {
            return first.to == to;
        }

        boolean canGoOnBy(Line line) {
            return line.from == first.to && line.to == to && line.leaves > first.leaves;
        }

        boolean hasRoom() {
            return optionCount < options.length;
        }

        /** Called only where there is room; -1 and nothing added otherwise. */
        int addOption(Option added) {
            if (!hasRoom()) {
                return -1;
            }
            options[optionCount] = added;
            optionCount++;
            if (picked < 0) {
                picked = 0;
            }
            return optionCount - 1;
        }

        void pickFirst() {
            picked = optionCount > 0 ? 0 : -1;
        }

        boolean pickNext() {
            if (picked + 1 >= optionCount) {
                return false;
            }
            picked++;
            return true;
        }

        void keepPicked() {
            keptPick = picked;
        }

        void takeKept() {
            picked = keptPick;
        }

        private Option pickedOption() {
            return picked >= 0 && picked < optionCount ? options[picked] : null;
        }

        boolean concerns(Line line) {
            if (first.number == line.number) {
                return true;
            }
            for (int i = 0; i < optionCount; i++) {
                Line onward = options[i].onward;
                if (onward != null && onward.number == line.number) {
                    return true;
                }
            }
            return false;
        }

        void comeAndHold() {
            coming = first.arrivesAt();
            Option option = pickedOption();
            if (option != null && option.kind == HOLD && option.onward != null) {
                option.onward.holdUntil(coming + CHANGE_MINUTES);
            }
        }

        void arrive() {
            Option option = pickedOption();
            isLeft = false;
            if (isDirect()) {
                arrivesAt = coming;
            } else if (option != null && option.kind == HIRE) {
                arrivesAt = coming + HIRE_MINUTES;
            } else if (option != null && option.onward != null && catches(option.onward)) {
                arrivesAt = option.onward.arrivesAt();
            } else {
                arrivesAt = coming + LEFT_MINUTES;
                isLeft = true;
            }
        }

        /**
         * One test for kinds 0 and 1: a line that waits for the load departs late enough for it,
         * and one that may not wait so long for it waits so long for no other either.
         */
        private boolean catches(Line line) {
            return line.departsAt >= coming + CHANGE_MINUTES;
        }

        void rememberArrival() {
            arrivedBefore = arrivesAt;
        }

        boolean hasMoved() {
            return arrivesAt != arrivedBefore;
        }

        long minutesBehind() {
            return Math.max(0, arrivesAt - due);
        }

        long harm() {
            Option option = pickedOption();
            return weight * minutesBehind() + (option == null ? 0 : option.cost);
        }

        boolean isAct() {
            Option option = pickedOption();
            return option != null && option.kind != GO_ON;
        }
    }
}
