import java.util.ArrayList;
import java.util.List;

/**
 * The document's words written down once more, as literally as can be and without regard to
 * speed: lines are gone through in the order in which they leave, each asking all loads.
 */
final class PlainRoutes {
    private static final int UNKNOWN = -11, OUTSIDE = -12, STATE = -13, ROOM = -14;

    private static final class Way {
        int from, to;
        long leaves, arrives, delay, most;
        long departs, comesIn;
    }

    private static final class Choice {
        int kind, line;
        long cost;
    }

    private static final class Freight {
        int line, to, weight, chosen = -1;
        long due, coming, arrival;
        boolean misses, left;
        final List<Choice> options = new ArrayList<>();

        Choice choice() {
            return chosen < 0 ? null : options.get(chosen);
        }
    }

    private final List<Way> lines = new ArrayList<>();
    private final List<Freight> loads = new ArrayList<>();

    int line(int from, int to, long leaves, long arrives) {
        if (from < 0 || from > 9 || to < 0 || to > 9 || from == to) return OUTSIDE;
        if (leaves < 0 || leaves > 10000 || arrives < 0 || arrives > 10000) return OUTSIDE;
        if (arrives <= leaves) return OUTSIDE;
        if (lines.size() == 12) return ROOM;
        Way way = new Way();
        way.from = from;
        way.to = to;
        way.leaves = leaves;
        way.arrives = arrives;
        lines.add(way);
        return lines.size();
    }

    int load(int line, int to, long due, int weight) {
        if (noLine(line)) return UNKNOWN;
        if (to < 0 || to > 9 || due < 0 || due > 20000 || weight < 1 || weight > 100) return OUTSIDE;
        if (loads.size() == 6) return ROOM;
        Freight freight = new Freight();
        freight.line = line;
        freight.to = to;
        freight.due = due;
        freight.weight = weight;
        loads.add(freight);
        return loads.size();
    }

    int option(int load, int kind, int line, long cost) {
        if (noLoad(load)) return UNKNOWN;
        if (kind != 2 && noLine(line)) return UNKNOWN;
        if (kind < 0 || kind > 2 || cost < 0 || cost > 10000) return OUTSIDE;
        Freight freight = loads.get(load - 1);
        Way first = lines.get(freight.line - 1);
        if (first.to == freight.to) return STATE;
        if (kind != 2) {
            Way on = lines.get(line - 1);
            if (on.from != first.to || on.to != freight.to) return STATE;
            if (on.leaves <= first.leaves) return STATE;
        }
        if (freight.options.size() == 4) return ROOM;
        Choice choice = new Choice();
        choice.kind = kind;
        choice.line = kind == 2 ? 0 : line;
        choice.cost = cost;
        freight.options.add(choice);
        if (freight.chosen == -1) freight.chosen = 0;
        return freight.options.size() - 1;
    }

    int waits(int line, long most) {
        if (noLine(line)) return UNKNOWN;
        if (most < 0 || most > 600) return OUTSIDE;
        long was = lines.get(line - 1).most;
        lines.get(line - 1).most = most;
        return (int) was;
    }

    int late(int line, long by) {
        if (noLine(line)) return UNKNOWN;
        if (by < 0 || by > 2000) return OUTSIDE;
        lines.get(line - 1).delay = by;
        times();
        int count = 0;
        for (Freight f : loads) if (f.left || f.arrival > f.due) count++;
        return count;
    }

    int tell(int line, long by) {
        if (noLine(line)) return UNKNOWN;
        if (by < 0 || by > 2000) return OUTSIDE;
        times();
        List<Long> before = new ArrayList<>();
        for (Freight f : loads) before.add(f.arrival);
        lines.get(line - 1).delay = by;
        for (Freight f : loads) {
            boolean touched = f.line == line;
            for (Choice c : f.options) touched |= c.kind != 2 && c.line == line;
            if (touched && !f.options.isEmpty()) f.chosen = 0;
        }
        times();
        int count = 0;
        for (int i = 0; i < loads.size(); i++) if (loads.get(i).arrival != before.get(i)) count++;
        return count;
    }

    long solve() {
        long[] best = null;
        for (long[] tried : allChoices()) {
            if (best == null || isLess(tried, best)) best = tried;
        }
        for (int i = 0; i < loads.size(); i++) loads.get(i).chosen = (int) best[2 + i];
        return best[0];
    }

    /** Each choice as a row: harm, acts, the options of the loads in their order. */
    private List<long[]> allChoices() {
        List<long[]> rows = new ArrayList<>();
        tryFrom(0, rows);
        return rows;
    }

    /** The order of trying is turned round, so that ties are really decided by isLess. */
    private void tryFrom(int load, List<long[]> rows) {
        if (load == loads.size()) {
            long[] row = new long[2 + loads.size()];
            row[0] = harm();
            row[1] = acts();
            for (int i = 0; i < loads.size(); i++) row[2 + i] = loads.get(i).chosen;
            rows.add(row);
            return;
        }
        Freight freight = loads.get(load);
        if (freight.options.isEmpty()) {
            tryFrom(load + 1, rows);
            return;
        }
        for (int i = freight.options.size() - 1; i >= 0; i--) {
            freight.chosen = i;
            tryFrom(load + 1, rows);
        }
    }

    private static boolean isLess(long[] a, long[] b) {
        for (int i = 0; i < a.length; i++) if (a[i] != b[i]) return a[i] < b[i];
        return false;
    }

    int chosen(int load) {
        return noLoad(load) ? UNKNOWN : loads.get(load - 1).chosen;
    }

    long arrival(int load) {
        if (noLoad(load)) return UNKNOWN;
        times();
        return loads.get(load - 1).arrival;
    }

    long departs(int line) {
        if (noLine(line)) return UNKNOWN;
        times();
        return lines.get(line - 1).departs;
    }

    int none(int i) {
        times();
        List<Integer> left = new ArrayList<>();
        for (int n = 0; n < loads.size(); n++) if (loads.get(n).left) left.add(n + 1);
        return i >= 0 && i < left.size() ? left.get(i) : -1;
    }

    int acts() {
        int count = 0;
        for (Freight f : loads) if (f.choice() != null && f.choice().kind != 0) count++;
        return count;
    }

    private long harm() {
        times();
        long sum = 0;
        for (Freight f : loads) {
            if (f.arrival > f.due) sum += f.weight * (f.arrival - f.due);
            if (f.choice() != null) sum += f.choice().cost;
        }
        return sum;
    }

    private void times() {
        List<Integer> order = new ArrayList<>();
        for (int i = 0; i < lines.size(); i++) order.add(i);
        order.sort((a, b) -> lines.get(a).leaves != lines.get(b).leaves
            ? Long.compare(lines.get(a).leaves, lines.get(b).leaves) : Integer.compare(a, b));
        for (Freight f : loads) f.misses = false;
        for (int i : order) depart(i + 1, lines.get(i));
        for (Freight f : loads) arrive(f);
    }

    private void depart(int number, Way way) {
        long planned = way.leaves + way.delay;
        way.departs = planned;
        for (Freight f : loads) {
            Choice c = f.choice();
            if (c == null || c.kind != 1 || c.line != number) continue;
            if (f.coming + 10 - planned > way.most) {
                f.misses = true;
            } else if (f.coming + 10 > way.departs) {
                way.departs = f.coming + 10;
            }
        }
        way.comesIn = way.arrives + way.departs - way.leaves;
        for (Freight f : loads) if (f.line == number) f.coming = way.comesIn;
    }

    private void arrive(Freight f) {
        Choice c = f.choice();
        f.left = false;
        if (lines.get(f.line - 1).to == f.to) {
            f.arrival = f.coming;
            return;
        }
        if (c != null && c.kind == 2) {
            f.arrival = f.coming + 60;
            return;
        }
        if (c != null) {
            Way on = lines.get(c.line - 1);
            if (c.kind == 0) f.misses = on.departs < f.coming + 10;
            if (!f.misses) {
                f.arrival = on.comesIn;
                return;
            }
        }
        f.arrival = f.coming + 1440;
        f.left = true;
    }

    private boolean noLine(int line) {
        return line < 1 || line > lines.size();
    }

    private boolean noLoad(int load) {
        return load < 1 || load > loads.size();
    }
}
