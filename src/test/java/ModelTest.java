import java.util.Random;

/**
 * Long runs of calls, always the same ones, whose answers must be those of PlainRoutes. Behind
 * each call that may change something, some of the calls that ask are compared too.
 */
public final class ModelTest {
    private static final Checks CHECKS = new Checks();
    private static final int RUNS = 1500;
    private static final int MAX_CALLS = 512;
    private static final long[] WILD = {
        Long.MIN_VALUE, Integer.MIN_VALUE, -1, 0, 1, 2, 3, 9, 10, 100, 101, 600, 601, 2000, 2001,
        10000, 10001, 20000, 20001, Integer.MAX_VALUE, 1L << 32, (1L << 32) + 1, Long.MAX_VALUE};

    private final Random random;
    private final String name;
    private final int places;
    private final int span;
    private final int wildness;
    /** Few lines and loads that are all alike, so that many choices are equally good. */
    private final boolean isNarrow;
    private final LateRoutes routes = new LateRoutes();
    private final PlainRoutes plain = new PlainRoutes();
    private int calls = 0;
    private int lineCount = 0;
    private int loadCount = 0;
    /** What has been made, so that most calls can be ones that fit. */
    private final int[] lineTo = new int[13];
    private final int[] loadLine = new int[7];

    private ModelTest(int run) {
        random = new Random(run);
        name = "run " + run + ", call ";
        isNarrow = run % 4 == 1;
        places = isNarrow ? 3 : 3 + random.nextInt(2);
        span = random.nextBoolean() ? 120 : 30;
        wildness = run % 3 == 0 ? 8 : 100;
    }

    public static void main(String[] args) {
        for (int run = 0; run < RUNS; run++) {
            new ModelTest(run).play();
        }
        CHECKS.end();
    }

    private void play() {
        int wanted = 20 + random.nextInt(80);
        for (int i = 0; i < 4; i++) {
            callLine();
        }
        for (int i = 0; i < wanted && calls < MAX_CALLS - 8; i++) {
            switch (random.nextInt(14)) {
                case 0, 1 -> callLineIfWanted();
                case 2, 3 -> callLoad();
                case 4, 5, 6, 7 -> callOption();
                case 8 -> callWaits();
                case 9, 10 -> callLate();
                case 11 -> callTell();
                default -> callSolve();
            }
            ask();
        }
        for (int i = 1; i <= 6 && calls < MAX_CALLS; i++) {
            due("chosen(" + i + ")", routes.chosen(i), plain.chosen(i));
        }
    }

    private void due(String call, long got, long want) {
        calls++;
        CHECKS.due(name + calls + ": " + call, got, want);
    }

    private boolean isWild() {
        return random.nextInt(wildness) == 0;
    }

    private long wild() {
        return WILD[random.nextInt(WILD.length)];
    }

    private long pick(long least, long greatest) {
        return isWild() ? wild() : least + random.nextInt((int) (greatest - least + 1));
    }

    private int pickInt(int least, int greatest) {
        return (int) pick(least, greatest);
    }

    private void callLineIfWanted() {
        if (!isNarrow) {
            callLine();
        }
    }

    private void callLine() {
        int from = isNarrow ? lineCount % 2 : pickInt(0, places - 2);
        int to = isWild() ? (int) wild() : from + 1;
        long leaves = pick(0, span) + (long) Math.max(0, Math.min(from, 9)) * span / 3;
        long arrives = isWild() ? wild() : leaves + 1 + random.nextInt(span / 3);
        long got = routes.line(from, to, leaves, arrives);
        due("line(" + from + ", " + to + ", " + leaves + ", " + arrives + ")", got,
            plain.line(from, to, leaves, arrives));
        if (got > 0) {
            lineCount = (int) got;
            lineTo[lineCount] = to;
        }
    }

    private void callLoad() {
        int line = pickInt(1, Math.max(1, lineCount));
        boolean fits = line >= 1 && line <= lineCount && random.nextInt(6) > 0;
        int to = fits ? lineTo[line] + 1 : pickInt(1, places - 1);
        long due = isNarrow ? 2L * span
            : random.nextInt(4) == 0 ? pick(0, 20000) : pick(0, 4L * span);
        int weight = isNarrow ? 1 : random.nextInt(3) == 0 ? pickInt(1, 100) : pickInt(1, 3);
        long got = routes.load(line, to, due, weight);
        due("load(" + line + ", " + to + ", " + due + ", " + weight + ")", got,
            plain.load(line, to, due, weight));
        if (got > 0) {
            loadCount = (int) got;
            loadLine[loadCount] = line;
        }
    }

    private void callOption() {
        for (int i = 0; i < 3; i++) {
            int load = pickInt(1, Math.max(1, loadCount));
            int kind = random.nextInt(12) == 0 ? pickInt(-1, 3) : random.nextInt(5) / 2;
            int line = pickOnward(load);
            long cost = isNarrow ? 0 : random.nextInt(3) == 0 ? pick(0, 100) : random.nextInt(2);
            long got = routes.option(load, kind, line, cost);
            due("option(" + load + ", " + kind + ", " + line + ", " + cost + ")", got,
                plain.option(load, kind, line, cost));
            if (got >= 0) {
                return;
            }
        }
    }

    /** Mostly a line that goes on from where the load's first one ends. */
    private int pickOnward(int load) {
        int line = pickInt(1, Math.max(1, lineCount));
        for (int i = 0; i < 6 && load >= 1 && load <= loadCount; i++) {
            int wanted = lineTo[loadLine[load]] + 1;
            if (line >= 1 && line <= lineCount && lineTo[line] == wanted) {
                return line;
            }
            line = pickInt(1, Math.max(1, lineCount));
        }
        return line;
    }

    private void callWaits() {
        int line = pickInt(1, Math.max(1, lineCount));
        long most = random.nextInt(3) == 0 ? pick(0, 600) : pick(0, 30);
        due("waits(" + line + ", " + most + ")", routes.waits(line, most), plain.waits(line, most));
    }

    private void callLate() {
        int line = pickInt(1, Math.max(1, lineCount));
        long by = random.nextInt(8) == 0 ? pick(0, 2000) : pick(0, 40);
        due("late(" + line + ", " + by + ")", routes.late(line, by), plain.late(line, by));
    }

    private void callTell() {
        int line = pickInt(1, Math.max(1, lineCount));
        long by = random.nextInt(8) == 0 ? pick(0, 2000) : pick(0, 40);
        due("tell(" + line + ", " + by + ")", routes.tell(line, by), plain.tell(line, by));
    }

    private void callSolve() {
        due("solve()", routes.solve(), plain.solve());
    }

    private void ask() {
        int load = pickInt(1, Math.max(1, loadCount));
        int line = pickInt(1, Math.max(1, lineCount));
        int left = pickInt(-1, 6);
        due("chosen(" + load + ")", routes.chosen(load), plain.chosen(load));
        due("arrival(" + load + ")", routes.arrival(load), plain.arrival(load));
        due("departs(" + line + ")", routes.departs(line), plain.departs(line));
        due("none(" + left + ")", routes.none(left), plain.none(left));
        due("acts()", routes.acts(), plain.acts());
    }
}
