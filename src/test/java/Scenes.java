/** Objects that several tests begin with. */
final class Scenes {
    static final int MAX_LINES = 12, MAX_LOADS = 6, MAX_OPTIONS = 4;

    private Scenes() {
    }

    /** Line 1 from 0 to 1 (0 .. 60); line 2 from 1 to 2 (70 .. 100); line 3 the same (160 .. 200). */
    static LateRoutes threeLines() {
        LateRoutes x = new LateRoutes();
        x.line(0, 1, 0, 60);
        x.line(1, 2, 70, 100);
        x.line(1, 2, 160, 200);
        return x;
    }

    /** threeLines(), and load 1 from line 1 to place 2, due at 0, with a weight of 1. */
    static LateRoutes oneLoad() {
        LateRoutes x = threeLines();
        x.load(1, 2, 0, 1);
        return x;
    }

    /** oneLoad() with one option, number 0. */
    static LateRoutes oneOption(int kind, int line) {
        LateRoutes x = oneLoad();
        x.option(1, kind, line, 0);
        return x;
    }

    /** Line n goes from 0 to 1, leaves at n and arrives at n + 1. */
    static LateRoutes lines(int count) {
        LateRoutes x = new LateRoutes();
        for (int n = 1; n <= count; n++) {
            x.line(0, 1, n, n + 1);
        }
        return x;
    }

    /** threeLines(), and loads from line 1 to place 2, due at 0, with a weight of 1. */
    static LateRoutes loads(int count) {
        LateRoutes x = threeLines();
        for (int n = 1; n <= count; n++) {
            x.load(1, 2, 0, 1);
        }
        return x;
    }

    /**
     * All the room there is: 12 lines, 6 loads, 24 options, some lines late, some that may wait.
     * The loads begin on lines 1 and 2, lines 3 to 12 are those that they may go on by.
     */
    static LateRoutes full() {
        LateRoutes x = new LateRoutes();
        x.line(0, 1, 0, 30);
        x.line(3, 1, 5, 33);
        for (int n = 3; n <= MAX_LINES; n++) {
            x.line(1, 2, 30 + n, 70 + 2 * n);
        }
        for (int n = 1; n <= MAX_LOADS; n++) {
            x.load(1 + n % 2, 2, 60 + n, n);
            for (int i = 0; i < MAX_OPTIONS; i++) {
                x.option(n, (n + i) % 3, 3 + (2 * n + 3 * i) % 10, (3 * i) % 4);
            }
        }
        for (int n = 3; n <= MAX_LINES; n += 2) {
            x.waits(n, n);
        }
        x.late(2, 4);
        x.late(8, 3);
        return x;
    }
}
