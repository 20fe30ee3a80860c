/**
 * "UNKNOWN (no such line, load)": each call that names a line or a load, asked for the numbers at
 * both ends of those that there are and for the numbers next to them, with no lines or loads at
 * all, with one, with all but one, and with all. none() names no load: it has -1 instead.
 */
public final class NumbersTest {
    private static final int UNKNOWN = -11;
    private static final Checks CHECKS = new Checks();

    /** A call for the line, or the load, of that number. */
    private interface Call {
        long of(LateRoutes x, int number);
    }

    public static void main(String[] args) {
        loadOnUnknownLine();
        optionOfUnknownLoad();
        optionOfUnknownLoadHired();
        optionWithUnknownLine();
        waitsOfUnknownLine();
        lateOfUnknownLine();
        tellOfUnknownLine();
        chosenOfUnknownLoad();
        arrivalOfUnknownLoad();
        departsOfUnknownLine();
        noneAmongNoLoads();
        noneAmongLoadsThatArrive();
        noneAmongSome();
        noneAmongAll();
        CHECKS.end();
    }

    private static void due(String what, long got, long want) {
        CHECKS.due(what, got, want);
    }

    /** None of these is one of 1 .. count, some would be if they were cut to fewer bits. */
    private static int[] strangers(int count) {
        return new int[] {Integer.MIN_VALUE, Integer.MIN_VALUE + 1, -count - 1, -count, -1, 0,
            count + 1, count + 2, (1 << 8) + 1, (1 << 16) + 1, Integer.MAX_VALUE};
    }

    private static void ofLines(String name, Call call) {
        for (int count : new int[] {0, 1, 2, 11, 12}) {
            LateRoutes x = Scenes.lines(count);
            for (int number : strangers(count)) {
                due(name + " for line " + number + " of " + count, call.of(x, number), UNKNOWN);
            }
            for (int number = 1; number <= count; number += Math.max(1, count - 1)) {
                CHECKS.isTrue(name + " for line " + number + " of " + count,
                    call.of(x, number) != UNKNOWN);
            }
        }
    }

    private static void ofLoads(String name, Call call) {
        for (int count : new int[] {0, 1, 2, 5, 6}) {
            LateRoutes x = Scenes.loads(count);
            for (int number : strangers(count)) {
                due(name + " for load " + number + " of " + count, call.of(x, number), UNKNOWN);
            }
            for (int number = 1; number <= count; number += Math.max(1, count - 1)) {
                CHECKS.isTrue(name + " for load " + number + " of " + count,
                    call.of(x, number) != UNKNOWN);
            }
        }
    }

    /** load: "UNKNOWN (line)". */
    private static void loadOnUnknownLine() {
        ofLines("load()", (x, number) -> x.load(number, 1, 0, 1));
    }

    /** option: "UNKNOWN (load". */
    private static void optionOfUnknownLoad() {
        ofLoads("option()", (x, number) -> x.option(number, 0, 2, 0));
        ofLoads("option()", (x, number) -> x.option(number, 1, 2, 0));
    }

    private static void optionOfUnknownLoadHired() {
        ofLoads("option(), hired,", (x, number) -> x.option(number, 2, 0, 0));
    }

    /** option: "UNKNOWN (.. line, if kind is not 2". */
    private static void optionWithUnknownLine() {
        for (int kind : new int[] {-1, 0, 1, 3}) {
            for (int count : new int[] {1, 2, 11, 12}) {
                LateRoutes x = Scenes.lines(count);
                x.load(1, 2, 0, 1);
                for (int number : strangers(count)) {
                    due("option() of kind " + kind + " with line " + number + " of " + count,
                        x.option(1, kind, number, 0), UNKNOWN);
                }
                CHECKS.isTrue("option() of kind " + kind + " with line " + count,
                    x.option(1, kind, count, 0) != UNKNOWN);
            }
        }
    }

    /** waits: "UNKNOWN". */
    private static void waitsOfUnknownLine() {
        ofLines("waits()", (x, number) -> x.waits(number, 1));
    }

    /** late: "UNKNOWN". */
    private static void lateOfUnknownLine() {
        ofLines("late()", (x, number) -> x.late(number, 1));
    }

    /** tell: "UNKNOWN". */
    private static void tellOfUnknownLine() {
        ofLines("tell()", (x, number) -> x.tell(number, 1));
    }

    /** chosen: "UNKNOWN". */
    private static void chosenOfUnknownLoad() {
        ofLoads("chosen()", LateRoutes::chosen);
    }

    /** arrival: "UNKNOWN". */
    private static void arrivalOfUnknownLoad() {
        ofLoads("arrival()", LateRoutes::arrival);
    }

    /** departs: "UNKNOWN". */
    private static void departsOfUnknownLine() {
        ofLines("departs()", LateRoutes::departs);
    }

    private static void noneIsMinusOne(String what, LateRoutes x, int... asked) {
        for (int i : asked) {
            due("none(" + i + ") " + what, x.none(i), -1);
        }
    }

    /** none: "The i-th load that IS LEFT (0 the first); -1". */
    private static void noneAmongNoLoads() {
        noneIsMinusOne("of no lines", new LateRoutes(), Integer.MIN_VALUE, -1, 0, 1, 6,
            Integer.MAX_VALUE);
        noneIsMinusOne("of no loads", Scenes.lines(12), -1, 0, 1, 6);
    }

    private static void noneAmongLoadsThatArrive() {
        LateRoutes x = Scenes.lines(1);
        for (int load = 1; load <= 6; load++) {
            x.load(1, 1, 0, 1);
        }
        noneIsMinusOne("of direct loads", x, Integer.MIN_VALUE, -2, -1, 0, 1, 5, 6, 7,
            Integer.MAX_VALUE);
    }

    /** Loads 2, 3 and 6 of 6 are left: their order is that of their numbers. */
    private static void noneAmongSome() {
        LateRoutes x = Scenes.threeLines();
        for (int load = 1; load <= 6; load++) {
            x.load(1, load == 2 || load == 3 || load == 6 ? 2 : 1, 0, 1);
        }
        due("none(0) of three", x.none(0), 2);
        due("none(1) of three", x.none(1), 3);
        due("none(2) of three", x.none(2), 6);
        noneIsMinusOne("of three", x, Integer.MIN_VALUE, -3, -2, -1, 3, 4, 5, 6, 256,
            1 << 16, Integer.MAX_VALUE);
        due("none(2) asked again", x.none(2), 6);
    }

    private static void noneAmongAll() {
        LateRoutes x = Scenes.loads(6);
        for (int i = 0; i < 6; i++) {
            due("none(" + i + ") of six", x.none(i), i + 1);
        }
        noneIsMinusOne("of six", x, Integer.MIN_VALUE, -6, -1, 6, 7, Integer.MAX_VALUE);
    }
}
