import java.util.Random;

/**
 * "An object is used for at most 512 calls after it has been made": the last of these is answered
 * like the first, whatever the others were, also in an object that is full.
 */
public final class LifeTest {
    private static final int UNKNOWN = -11, OUTSIDE = -12, ROOM = -14;
    private static final Checks CHECKS = new Checks();
    private static final int CALLS = 512;

    public static void main(String[] args) {
        allCallsRefused();
        allCallsForLines();
        allCallsForLoads();
        allCallsForOptions();
        allCallsSetAndUnset();
        allCallsTold();
        allCallsSolve();
        allCallsAsk();
        for (int run = 0; run < 6; run++) {
            new Full(run).play();
        }
        objectsShareNothing();
        CHECKS.end();
    }

    private static void due(String what, long got, long want) {
        CHECKS.due(what, got, want);
    }

    private static void allCallsRefused() {
        LateRoutes x = new LateRoutes();
        for (int call = 1; call < CALLS; call++) {
            due("call " + call + ", refused", x.line(call % 10, call % 10, 0, 1), OUTSIDE);
        }
        due("call 512, not refused", x.line(0, 1, 0, 1), 1);
    }

    private static void allCallsForLines() {
        LateRoutes x = new LateRoutes();
        for (int call = 1; call < CALLS; call++) {
            due("call " + call + ", line", x.line(0, 1, call, call + 1), call <= 12 ? call : ROOM);
        }
        due("call 512, departs", x.departs(12), 12);
    }

    private static void allCallsForLoads() {
        LateRoutes x = Scenes.lines(1);
        for (int call = 2; call < CALLS; call++) {
            due("call " + call + ", load", x.load(1, 1, 0, 1), call <= 7 ? call - 1 : ROOM);
        }
        due("call 512, arrival", x.arrival(6), 2);
    }

    private static void allCallsForOptions() {
        LateRoutes x = Scenes.oneLoad();
        for (int call = 5; call < CALLS; call++) {
            due("call " + call + ", option", x.option(1, 0, 2, 0), call <= 8 ? call - 5 : ROOM);
        }
        due("call 512, arrival", x.arrival(1), 100);
    }

    private static void allCallsSetAndUnset() {
        LateRoutes x = Scenes.oneOption(1, 2);
        for (int call = 6; call < CALLS; call += 2) {
            due("call " + call + ", waits", x.waits(2, call), call == 6 ? 0 : call - 2);
            due("call " + (call + 1) + ", late", x.late(1, call), 1);
        }
        due("call 512, departs", x.departs(2), 70 + 510);
    }

    private static void allCallsTold() {
        LateRoutes x = Scenes.loads(6);
        for (int call = 10; call < CALLS; call++) {
            due("call " + call + ", tell", x.tell(1, call), 6);
        }
        due("call 512, arrival", x.arrival(6), 60 + 511 + 1440);
    }

    /** Dearest of all: 512 calls, as many of them solve() as can be with all loads and options. */
    private static void allCallsSolve() {
        LateRoutes x = Scenes.threeLines();
        for (int load = 1; load <= 6; load++) {
            x.load(1, 2, 100, load);
            for (int i = 0; i < 4; i++) {
                x.option(load, i % 3, i == 3 ? 2 : 3, 7 + i);
            }
        }
        for (int call = 34; call <= CALLS; call++) {
            due("call " + call + ", solve", x.solve(), 60);
        }
        due("behind all of them", x.chosen(6), 3);
    }

    private static void allCallsAsk() {
        LateRoutes x = Scenes.oneLoad();
        for (int call = 5; call < CALLS; call++) {
            due("call " + call + ", none", x.none(call - 5), call == 5 ? 1 : -1);
        }
        due("call 512, acts", x.acts(), 0);
    }

    private static void objectsShareNothing() {
        LateRoutes x = Scenes.full();
        LateRoutes y = new LateRoutes();
        due("another one has no lines", y.departs(1), UNKNOWN);
        due("another one has no loads", y.arrival(1), UNKNOWN);
        due("another one's first line", y.line(0, 1, 5, 6), 1);
        due("another one's first load", y.load(1, 1, 0, 1), 1);
        due("another one may wait", y.waits(1, 9), 0);
        due("another one is late", y.late(1, 3), 1);
        due("the one is not", x.departs(1), 0);
        due("the one may not wait", x.waits(1, 0), 0);
    }

    /** 512 calls in an object that is full from the 43rd on, against the plain writing. */
    private static final class Full {
        private final Random random;
        private final String name;
        private final LateRoutes routes = new LateRoutes();
        private final PlainRoutes plain = new PlainRoutes();
        private int calls = 0;

        Full(int run) {
            random = new Random(1000 + run);
            name = "full run " + run + ", call ";
        }

        private void same(String call, long got, long want) {
            calls++;
            due(name + calls + ", " + call, got, want);
        }

        void play() {
            fill();
            due(name + " is full by call", calls, 12 + 6 + 24);
            while (calls < CALLS) {
                playOne(random.nextInt(40));
            }
        }

        private void fill() {
            for (int n = 1; n <= 12; n++) {
                int from = n <= 3 ? 0 : n <= 8 ? 1 : 2;
                long leaves = 60L * from + random.nextInt(60);
                long arrives = leaves + 1 + random.nextInt(40);
                same("line", routes.line(from, from + 1, leaves, arrives),
                    plain.line(from, from + 1, leaves, arrives));
            }
            for (int n = 1; n <= 6; n++) {
                // Loads on lines 1 to 3 go on by lines 4 to 8, those on 4 to 8 by 9 to 12.
                int line = n <= 3 ? n : n + 1;
                int to = n <= 3 ? 2 : 3;
                long dueAt = 60 + random.nextInt(150);
                int weight = 1 + random.nextInt(3);
                same("load", routes.load(line, to, dueAt, weight),
                    plain.load(line, to, dueAt, weight));
                fillOptions(n);
            }
        }

        private void fillOptions(int load) {
            for (int i = 0; i < 4; i++) {
                int kind = random.nextInt(5) / 2;
                int line = load <= 3 ? 4 + random.nextInt(5) : 9 + random.nextInt(4);
                long cost = random.nextInt(20);
                int got = routes.option(load, kind, line, cost);
                same("option", got, plain.option(load, kind, line, cost));
                due(name + calls + " is taken", got, i);
            }
        }

        private void playOne(int what) {
            int line = 1 + random.nextInt(12);
            int load = 1 + random.nextInt(6);
            long by = random.nextInt(60);
            if (what < 7) {
                same("late", routes.late(line, by), plain.late(line, by));
            } else if (what < 11) {
                same("waits", routes.waits(line, by), plain.waits(line, by));
            } else if (what < 15) {
                same("tell", routes.tell(line, by), plain.tell(line, by));
            } else if (what < 18) {
                same("solve", routes.solve(), plain.solve());
            } else if (what < 23) {
                same("arrival", routes.arrival(load), plain.arrival(load));
            } else if (what < 28) {
                same("departs", routes.departs(line), plain.departs(line));
            } else if (what < 33) {
                same("chosen", routes.chosen(load), plain.chosen(load));
            } else if (what < 36) {
                same("none", routes.none(load - 1), plain.none(load - 1));
            } else {
                same("acts", routes.acts(), plain.acts());
            }
        }
    }
}
