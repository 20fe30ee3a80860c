import java.util.function.LongUnaryOperator;

/**
 * The sentences that bound a number, one method for each: both ends of each range, the numbers
 * next to them on either side, and numbers far outside, such as would fit if they were cut to 32
 * bits among them. Where a number is taken, what the object answers afterwards shows it kept.
 */
public final class BoundsTest {
    private static final int UNKNOWN = -11, OUTSIDE = -12, STATE = -13, ROOM = -14;
    private static final Checks CHECKS = new Checks();

    public static void main(String[] args) {
        lineFromIsAPlace();
        lineToIsAPlace();
        lineKeepsItsPlaces();
        lineGoesToAnotherPlace();
        lineLeaves();
        lineLeavesAtTheLastTime();
        lineArrives();
        lineArrivesBehindLeaving();
        lineNumbers();
        lineNumbersSkipNone();
        loadToIsAPlace();
        loadDue();
        loadWeight();
        loadNumbers();
        loadNumbersSkipNone();
        optionKind();
        optionCost();
        optionNumbers();
        optionNumbersOfEachLoad();
        optionNumbersSkipNone();
        optionOfDirectLoad();
        optionLineFrom();
        optionLineTo();
        optionLineLeavesLater();
        optionLineLeavesLaterWhateverTheDelay();
        optionHiredLooksAtNoLine();
        waitsMost();
        waitsMostOfEachLine();
        waitsMostIsZeroAtFirst();
        lateBy();
        tellBy();
        delayIsZeroAtFirst();
        CHECKS.end();
    }

    private static void due(String what, long got, long want) {
        CHECKS.due(what, got, want);
    }

    /** Inside the range the number itself is due, outside OUTSIDE. */
    private static void rangeOfInt(String what, long least, long greatest, LongUnaryOperator call) {
        for (long n : new long[] {least, least + 1, greatest - 1, greatest}) {
            due(what + " " + n, call.applyAsLong(n), n);
        }
        for (long n : new long[] {least - 1, greatest + 1, least - (1 << 16), greatest + (1 << 16),
            Integer.MIN_VALUE, Integer.MIN_VALUE + greatest, Integer.MAX_VALUE}) {
            due(what + " " + n, call.applyAsLong(n), OUTSIDE);
        }
    }

    private static void rangeOfLong(String what, long least, long greatest, LongUnaryOperator call) {
        rangeOfInt(what, least, greatest, call);
        for (long n : new long[] {(1L << 32) + least, (1L << 32) + greatest, (1L << 32) + least + 1,
            least - (1L << 32), greatest - (1L << 32), Long.MIN_VALUE, Long.MIN_VALUE + greatest,
            Long.MAX_VALUE}) {
            due(what + " " + n, call.applyAsLong(n), OUTSIDE);
        }
    }

    /** "PLACES are 0 .. 9"; line: "OUTSIDE (places". */
    private static void lineFromIsAPlace() {
        rangeOfInt("line: from", 0, 9, n -> {
            int answer = new LateRoutes().line((int) n, 5, 0, 1);
            return answer == 1 ? n : answer;
        });
    }

    /** "PLACES are 0 .. 9"; line: "OUTSIDE (places". */
    private static void lineToIsAPlace() {
        rangeOfInt("line: to", 0, 9, n -> {
            int answer = new LateRoutes().line(5, (int) n, 0, 1);
            return answer == 1 ? n : answer;
        });
    }

    /** Each place is one of its own: a load goes on from there, and a load to there is direct. */
    private static void lineKeepsItsPlaces() {
        for (int place = 0; place <= 9; place++) {
            int before = (place + 9) % 10;
            int behind = (place + 1) % 10;
            LateRoutes x = new LateRoutes();
            x.line(before, place, 0, 60);
            x.line(place, behind, 70, 100);
            x.load(1, behind, 0, 1);
            x.load(1, place, 0, 1);
            x.load(1, before, 0, 1);
            due("goes on from " + place, x.option(1, 0, 2, 0), 0);
            due("goes on from " + place + " and arrives", x.arrival(1), 100);
            due("direct to " + place, x.arrival(2), 60);
            due("back to " + before + " is not direct", x.arrival(3), 60 + 1440);
        }
    }

    /** "from a place to another one"; line: "OUTSIDE (.. from is to". */
    private static void lineGoesToAnotherPlace() {
        for (int place = 0; place <= 9; place++) {
            LateRoutes x = new LateRoutes();
            due("line: from and to " + place, x.line(place, place, 0, 1), OUTSIDE);
            due("line: from " + place + " to another one", x.line(place, (place + 1) % 10, 0, 1), 1);
        }
    }

    /** line: "leaves .. 0 .. 10000"; at 10000 it can't arrive behind leaving. */
    private static void lineLeaves() {
        rangeOfLong("line: leaves", 0, 9999, n -> {
            LateRoutes x = new LateRoutes();
            int answer = x.line(0, 1, n, 10000);
            return answer == 1 ? x.departs(1) : answer;
        });
    }

    private static void lineLeavesAtTheLastTime() {
        LateRoutes x = new LateRoutes();
        due("line: leaves at 10000, arrives then", x.line(0, 1, 10000, 10000), OUTSIDE);
        due("line: leaves at 10000, arrives at 10001", x.line(0, 1, 10000, 10001), OUTSIDE);
        due("line: leaves at 10001, arrives at 10002", x.line(0, 1, 10001, 10002), OUTSIDE);
        due("line: leaves at -1, arrives at 0", x.line(0, 1, -1, 0), OUTSIDE);
        due("line: leaves at -2, arrives at -1", x.line(0, 1, -2, -1), OUTSIDE);
        due("line: leaves first, arrives last", x.line(0, 1, 0, 10000), 1);
    }

    /** line: "arrives .. 0 .. 10000"; at 0 it does not arrive behind leaving. */
    private static void lineArrives() {
        rangeOfLong("line: arrives", 1, 10000, n -> {
            LateRoutes x = new LateRoutes();
            int answer = x.line(0, 1, 0, n);
            x.load(1, 1, 0, 1);
            return answer == 1 ? x.arrival(1) : answer;
        });
        due("line: arrives at -1", new LateRoutes().line(0, 1, 0, -1), OUTSIDE);
    }

    /** line: "or it does not arrive behind leaving". */
    private static void lineArrivesBehindLeaving() {
        for (long leaves : new long[] {0, 1, 2, 4999, 5000, 9998, 9999}) {
            LateRoutes x = new LateRoutes();
            due("line: arrives before " + leaves, x.line(0, 1, leaves, leaves - 1), OUTSIDE);
            due("line: arrives at " + leaves, x.line(0, 1, leaves, leaves), OUTSIDE);
            due("line: arrives behind " + leaves, x.line(0, 1, leaves, leaves + 1), 1);
        }
    }

    /** "LINES are 1, 2, .. (12 at most)"; line: "ROOM". */
    private static void lineNumbers() {
        LateRoutes x = new LateRoutes();
        for (int n = 1; n <= 12; n++) {
            due("line " + n, x.line(0, 1, n, n + 1), n);
        }
        for (int n = 13; n <= 15; n++) {
            due("line " + n, x.line(0, 1, n, n + 1), ROOM);
            due("there is no line " + n, x.departs(n), UNKNOWN);
        }
        for (int n = 1; n <= 12; n++) {
            due("line " + n + " is the one it was", x.departs(n), n);
        }
    }

    private static void lineNumbersSkipNone() {
        LateRoutes x = new LateRoutes();
        for (int n = 1; n <= 12; n++) {
            due("line: refused before line " + n, x.line(0, 0, n, n + 1), OUTSIDE);
            due("line " + n + " behind refused ones", x.line(0, 1, n, n + 1), n);
        }
    }

    /** "PLACES are 0 .. 9"; load: "OUTSIDE (to". */
    private static void loadToIsAPlace() {
        rangeOfInt("load: to", 0, 9, n -> {
            LateRoutes x = Scenes.threeLines();
            int answer = x.load(1, (int) n, 0, 1);
            boolean isKept = x.arrival(1) == (n == 1 ? 60 : 60 + 1440);
            return answer == 1 && isKept ? n : answer;
        });
    }

    /** load: "due 0 .. 20000". What a load does harm by tells what it is due at. */
    private static void loadDue() {
        rangeOfLong("load: due", 0, 20000, n -> {
            LateRoutes x = Scenes.threeLines();
            int answer = x.load(1, 1, n, 1);
            boolean isKept = x.solve() == Math.max(0, 60 - n);
            return answer == 1 && isKept ? n : answer;
        });
    }

    /** load: "weight 1 .. 100". */
    private static void loadWeight() {
        rangeOfInt("load: weight", 1, 100, n -> {
            LateRoutes x = Scenes.threeLines();
            int answer = x.load(1, 1, 59, (int) n);
            return answer == 1 ? x.solve() : answer;
        });
    }

    /** "LOADS are 1, 2, .. (6 at most)"; load: "ROOM". */
    private static void loadNumbers() {
        LateRoutes x = Scenes.lines(12);
        for (int n = 1; n <= 6; n++) {
            due("load " + n, x.load(n, 1, 0, 1), n);
        }
        for (int n = 7; n <= 9; n++) {
            due("load " + n, x.load(n, 1, 0, 1), ROOM);
            due("there is no load " + n, x.arrival(n), UNKNOWN);
        }
        for (int n = 1; n <= 6; n++) {
            due("load " + n + " is the one it was", x.arrival(n), n + 1);
        }
    }

    private static void loadNumbersSkipNone() {
        LateRoutes x = Scenes.lines(1);
        for (int n = 1; n <= 6; n++) {
            due("load: unknown before load " + n, x.load(2, 1, 0, 1), UNKNOWN);
            due("load: refused before load " + n, x.load(1, 1, 0, 0), OUTSIDE);
            due("load " + n + " behind refused ones", x.load(1, 1, 0, 1), n);
        }
    }

    /** option: "kind 0 .. 2". What the load arrives at, and whether it is an act, tell the kind. */
    private static void optionKind() {
        rangeOfInt("option: kind", 0, 2, n -> {
            LateRoutes x = Scenes.oneLoad();
            x.waits(2, 10);
            x.late(1, 5);
            int answer = x.option(1, (int) n, 2, 0);
            if (answer != 0) {
                return answer;
            }
            long arrival = x.arrival(1);
            return arrival == 65 + 1440 ? 0 : arrival == 105 ? 1 : arrival == 65 + 60 ? 2 : -1;
        });
    }

    /** option: "cost 0 .. 10000", of each kind. */
    private static void optionCost() {
        for (int kind = 0; kind <= 2; kind++) {
            int asked = kind;
            rangeOfLong("option: cost of kind " + kind, 0, 10000, n -> {
                LateRoutes x = Scenes.threeLines();
                x.load(1, 2, 20000, 1);
                int answer = x.option(1, asked, 2, n);
                return answer == 0 ? x.solve() : answer;
            });
        }
    }

    /** "an OPTION: up to four each, numbered from 0"; option: "ROOM". */
    private static void optionNumbers() {
        for (int kind = 0; kind <= 2; kind++) {
            LateRoutes x = Scenes.oneLoad();
            for (int n = 0; n < 4; n++) {
                due("option " + n + " of kind " + kind, x.option(1, kind, 2, 3 - n), n);
            }
            due("option 4 of kind " + kind, x.option(1, kind, 2, 0), ROOM);
            due("option 5 of kind " + kind, x.option(1, kind, 2, 0), ROOM);
            x.solve();
            due("option 3 is the cheapest one of kind " + kind, x.chosen(1), 3);
        }
    }

    private static void optionNumbersOfEachLoad() {
        LateRoutes x = Scenes.loads(6);
        for (int load = 1; load <= 6; load++) {
            for (int n = 0; n < 4; n++) {
                due("option " + n + " of load " + load, x.option(load, n % 3, 2, 0), n);
            }
        }
        for (int load = 1; load <= 6; load++) {
            due("option 4 of load " + load, x.option(load, 2, 0, 0), ROOM);
        }
    }

    private static void optionNumbersSkipNone() {
        LateRoutes x = Scenes.oneLoad();
        for (int n = 0; n < 4; n++) {
            due("option: unknown before option " + n, x.option(1, 0, 4, 0), UNKNOWN);
            due("option: outside before option " + n, x.option(1, 0, 2, -1), OUTSIDE);
            due("option: does not fit before option " + n, x.option(1, 0, 1, 0), STATE);
            due("option " + n + " behind refused ones", x.option(1, 0, 2, 0), n);
        }
    }

    /** "One whose line goes to its place is DIRECT"; option: "STATE (it is direct". */
    private static void optionOfDirectLoad() {
        LateRoutes x = Scenes.threeLines();
        x.line(1, 0, 70, 80);
        x.load(1, 1, 0, 1);
        x.load(1, 0, 0, 1);
        for (int kind = 0; kind <= 2; kind++) {
            due("option: direct, kind " + kind, x.option(1, kind, 2, 0), STATE);
            due("option: back to where it came from, kind " + kind, x.option(2, kind, 4, 0), kind);
        }
        due("option: a direct load has none", x.chosen(1), -1);
    }

    /** option: "STATE (.. the line does not go from where the first one goes". */
    private static void optionLineFrom() {
        for (int from = 0; from <= 9; from++) {
            LateRoutes x = new LateRoutes();
            x.line(0, 4, 0, 60);
            x.line(from, from == 9 ? 8 : 9, 70, 100);
            x.load(1, 9, 0, 1);
            due("option: goes on from " + from, x.option(1, 0, 2, 0), from == 4 ? 0 : STATE);
            due("option: waits at " + from, x.option(1, 1, 2, 0), from == 4 ? 1 : STATE);
        }
    }

    /** option: "STATE (.. to the load's place". */
    private static void optionLineTo() {
        for (int to = 0; to <= 9; to++) {
            LateRoutes x = new LateRoutes();
            x.line(0, 4, 0, 60);
            x.line(4, to == 4 ? 5 : to, 70, 100);
            x.load(1, 9, 0, 1);
            due("option: goes on to " + to, x.option(1, 0, 2, 0), to == 9 ? 0 : STATE);
            due("option: one to " + to + " waits", x.option(1, 1, 2, 0), to == 9 ? 1 : STATE);
        }
    }

    /** option: "STATE (.. or does not leave later than the first one leaves". */
    private static void optionLineLeavesLater() {
        for (int leaves : new int[] {1, 500, 9997}) {
            for (int kind = 0; kind <= 1; kind++) {
                LateRoutes x = new LateRoutes();
                x.line(0, 1, leaves, 10000);
                x.line(1, 2, leaves - 1, 9999);
                x.line(1, 2, leaves, 9999);
                x.line(1, 2, leaves + 1, 9999);
                x.load(1, 2, 0, 1);
                due("option: a minute before " + leaves, x.option(1, kind, 2, 0), STATE);
                due("option: at " + leaves, x.option(1, kind, 3, 0), STATE);
                due("option: a minute behind " + leaves, x.option(1, kind, 4, 0), 0);
            }
        }
    }

    /** LEAVES is said, not DEPARTS: what runs late leaves no later for that. */
    private static void optionLineLeavesLaterWhateverTheDelay() {
        LateRoutes x = new LateRoutes();
        x.line(0, 1, 50, 60);
        x.line(1, 2, 50, 60);
        x.line(1, 2, 51, 60);
        x.load(1, 2, 0, 1);
        x.late(2, 2000);
        due("option: leaves at the same time, however late", x.option(1, 0, 2, 0), STATE);
        x.late(1, 2000);
        due("option: leaves a minute later, however late the first", x.option(1, 0, 3, 0), 0);
    }

    /** option: "line, if kind is not 2: it is not looked at then". */
    private static void optionHiredLooksAtNoLine() {
        for (int line : new int[] {Integer.MIN_VALUE, -1, 0, 1, 2, 3, 4, 12, 13, Integer.MAX_VALUE}) {
            LateRoutes x = Scenes.oneLoad();
            due("option: hired, line " + line, x.option(1, 2, line, 0), 0);
            due("option: hired, line " + line + ", arrives", x.arrival(1), 120);
        }
    }

    /** waits: "OUTSIDE (0 .. 600)" and "what it was". */
    private static void waitsMost() {
        rangeOfLong("waits: most", 0, 600, n -> {
            LateRoutes x = Scenes.threeLines();
            x.waits(2, 300);
            int answer = x.waits(2, n);
            return answer == 300 ? x.waits(2, 7) : answer;
        });
    }

    private static void waitsMostOfEachLine() {
        LateRoutes x = Scenes.lines(12);
        for (int line = 1; line <= 12; line++) {
            due("waits: line " + line + " at first", x.waits(line, 600 - line), 0);
        }
        for (int line = 1; line <= 12; line++) {
            due("waits: line " + line + " was", x.waits(line, 0), 600 - line);
        }
    }

    /** "the MOST that it may WAIT (both 0 at first)". */
    private static void waitsMostIsZeroAtFirst() {
        LateRoutes x = Scenes.oneOption(1, 2);
        due("most 0: it catches its line", x.arrival(1), 100);
        x.late(1, 1);
        due("most 0: its line waits no minute", x.departs(2), 70);
        due("most 0: it misses its line", x.arrival(1), 61 + 1440);
        due("most 0: that is what it was", x.waits(2, 0), 0);
    }

    /** late: "OUTSIDE (0 .. 2000)". */
    private static void lateBy() {
        rangeOfLong("late: by", 0, 2000, n -> {
            LateRoutes x = Scenes.lines(2);
            int answer = x.late(2, n);
            return answer == 0 ? x.departs(2) - 2 : answer;
        });
    }

    /** tell: "OUTSIDE (as late())". */
    private static void tellBy() {
        rangeOfLong("tell: by", 0, 2000, n -> {
            LateRoutes x = Scenes.lines(2);
            int answer = x.tell(2, n);
            return answer == 0 ? x.departs(2) - 2 : answer;
        });
    }

    /** "a DELAY .. (both 0 at first)". */
    private static void delayIsZeroAtFirst() {
        LateRoutes x = Scenes.lines(12);
        for (int line = 1; line <= 12; line++) {
            due("delay 0: line " + line + " departs", x.departs(line), line);
        }
        x.late(1, 5);
        due("delay 0: line 2, though line 1 is late", x.departs(2), 2);
    }
}
