import java.util.ArrayList;
import java.util.List;
import java.util.function.Supplier;
import java.util.function.ToLongFunction;

/**
 * "REFUSALS are answers, of several the first one here: UNKNOWN, OUTSIDE, STATE, ROOM", and "A call
 * that is refused changes nothing": each refusal of each call is asked for in several objects, and
 * an object behind it must answer a long row of calls as its twin does that was never asked.
 */
public final class RefusalTest {
    private static final int UNKNOWN = -11, OUTSIDE = -12, STATE = -13, ROOM = -14;
    private static final Checks CHECKS = new Checks();

    public static void main(String[] args) {
        orderOfLine();
        orderOfLoad();
        orderOfOptionUnknown();
        orderOfOptionOutside();
        orderOfOptionState();
        orderOfWaitsLateTell();
        lineRefusedChangesNothing();
        loadRefusedChangesNothing();
        optionRefusedChangesNothing();
        optionOfDirectRefusedChangesNothing();
        waitsRefusedChangesNothing();
        lateRefusedChangesNothing();
        tellRefusedChangesNothing();
        tellRefusedChoosesNothing();
        askingChangesNothing();
        manyRefusalsChangeNothing();
        CHECKS.end();
    }

    private static void due(String what, long got, long want) {
        CHECKS.due(what, got, want);
    }

    /** line: OUTSIDE, ROOM. */
    private static void orderOfLine() {
        LateRoutes x = Scenes.full();
        due("line: room alone", x.line(0, 1, 0, 1), ROOM);
        due("line: from, no room", x.line(-1, 1, 0, 1), OUTSIDE);
        due("line: to, no room", x.line(0, 10, 0, 1), OUTSIDE);
        due("line: from is to, no room", x.line(0, 0, 0, 1), OUTSIDE);
        due("line: leaves, no room", x.line(0, 1, -1, 1), OUTSIDE);
        due("line: arrives, no room", x.line(0, 1, 0, 10001), OUTSIDE);
        due("line: not behind leaving, no room", x.line(0, 1, 1, 1), OUTSIDE);
        due("line: all at once", x.line(10, 10, 10001, -1), OUTSIDE);
    }

    /** load: UNKNOWN, OUTSIDE, ROOM. */
    private static void orderOfLoad() {
        LateRoutes x = Scenes.full();
        due("load: room alone", x.load(1, 1, 0, 1), ROOM);
        due("load: unknown, no room", x.load(13, 1, 0, 1), UNKNOWN);
        due("load: to, no room", x.load(1, 10, 0, 1), OUTSIDE);
        due("load: due, no room", x.load(1, 1, 20001, 1), OUTSIDE);
        due("load: weight, no room", x.load(1, 1, 0, 0), OUTSIDE);
        due("load: all at once", x.load(0, -1, -1, 101), UNKNOWN);
        LateRoutes y = Scenes.threeLines();
        due("load: unknown and to", y.load(4, 10, 0, 1), UNKNOWN);
        due("load: unknown and due", y.load(4, 1, -1, 1), UNKNOWN);
        due("load: unknown and weight", y.load(4, 1, 0, 101), UNKNOWN);
    }

    /** option: UNKNOWN before OUTSIDE, STATE and ROOM. */
    private static void orderOfOptionUnknown() {
        LateRoutes x = Scenes.oneLoad();
        x.load(1, 1, 0, 1);
        due("option: load and line", x.option(3, 0, 4, 0), UNKNOWN);
        due("option: load and kind", x.option(3, 3, 2, 0), UNKNOWN);
        due("option: load and kind -1", x.option(0, -1, 2, 0), UNKNOWN);
        due("option: load and cost", x.option(3, 0, 2, -1), UNKNOWN);
        due("option: load and cost, hired", x.option(3, 2, 2, 10001), UNKNOWN);
        due("option: line and kind", x.option(1, 3, 4, 0), UNKNOWN);
        due("option: line and kind -1", x.option(1, -1, 0, 0), UNKNOWN);
        due("option: line and cost", x.option(1, 1, 4, 10001), UNKNOWN);
        due("option: line and direct", x.option(2, 0, 4, 0), UNKNOWN);
        due("option: line, cost and direct", x.option(2, 1, 0, -1), UNKNOWN);
        for (int i = 0; i < 4; i++) {
            x.option(1, 2, 0, 0);
        }
        due("option: line, no room", x.option(1, 0, 4, 0), UNKNOWN);
        due("option: line, kind and cost, no room", x.option(1, 3, 4, -1), UNKNOWN);
    }

    /** option: OUTSIDE before STATE and ROOM. */
    private static void orderOfOptionOutside() {
        LateRoutes x = Scenes.oneLoad();
        x.load(1, 1, 0, 1);
        due("option: kind and direct", x.option(2, 3, 2, 0), OUTSIDE);
        due("option: kind -1 and direct", x.option(2, -1, 2, 0), OUTSIDE);
        due("option: cost and direct", x.option(2, 0, 2, 10001), OUTSIDE);
        due("option: cost and direct, hired", x.option(2, 2, 0, -1), OUTSIDE);
        due("option: kind and a line that does not fit", x.option(1, 3, 1, 0), OUTSIDE);
        due("option: cost and a line that does not fit", x.option(1, 1, 1, -1), OUTSIDE);
        for (int i = 0; i < 4; i++) {
            x.option(1, 2, 0, 0);
        }
        due("option: kind, no room", x.option(1, 3, 2, 0), OUTSIDE);
        due("option: cost, no room", x.option(1, 0, 2, -1), OUTSIDE);
        due("option: cost, no room, hired", x.option(1, 2, 0, 10001), OUTSIDE);
        due("option: cost, a line that does not fit, no room", x.option(1, 0, 1, 10001), OUTSIDE);
    }

    /** option: STATE before ROOM; a hired one has no line that could not fit. */
    private static void orderOfOptionState() {
        LateRoutes x = Scenes.oneLoad();
        for (int i = 0; i < 4; i++) {
            x.option(1, 2, 0, 0);
        }
        due("option: a line that does not fit, no room", x.option(1, 0, 1, 0), STATE);
        due("option: it may not wait either, no room", x.option(1, 1, 1, 0), STATE);
        due("option: hired, no room", x.option(1, 2, 1, 0), ROOM);
        due("option: hired, no such line, no room", x.option(1, 2, 13, 0), ROOM);
        due("option: room alone", x.option(1, 0, 2, 0), ROOM);
        due("option: room alone, waits", x.option(1, 1, 2, 0), ROOM);
    }

    /** waits, late, tell: UNKNOWN, OUTSIDE. */
    private static void orderOfWaitsLateTell() {
        for (int line : new int[] {-1, 0, 4}) {
            LateRoutes x = Scenes.threeLines();
            due("waits: line " + line + ", -1", x.waits(line, -1), UNKNOWN);
            due("waits: line " + line + ", 601", x.waits(line, 601), UNKNOWN);
            due("late: line " + line + ", -1", x.late(line, -1), UNKNOWN);
            due("late: line " + line + ", 2001", x.late(line, 2001), UNKNOWN);
            due("tell: line " + line + ", -1", x.tell(line, -1), UNKNOWN);
            due("tell: line " + line + ", 2001", x.tell(line, 2001), UNKNOWN);
        }
    }

    /** No lines; lines alone; half full and solved; full; full and solved. */
    private static List<Supplier<LateRoutes>> scenes() {
        List<Supplier<LateRoutes>> all = new ArrayList<>();
        all.add(LateRoutes::new);
        all.add(Scenes::threeLines);
        all.add(RefusalTest::halfFull);
        all.add(Scenes::full);
        all.add(() -> {
            LateRoutes x = Scenes.full();
            x.solve();
            return x;
        });
        return all;
    }

    /** Load 1 chose option 1 (line 2 waits), load 2 is direct, load 3 is left; line 3 is late. */
    private static LateRoutes halfFull() {
        LateRoutes x = Scenes.oneOption(0, 3);
        x.option(1, 1, 2, 4);
        x.load(1, 1, 50, 3);
        x.load(2, 5, 40, 2);
        x.waits(2, 30);
        x.waits(3, 9);
        x.late(1, 20);
        x.late(3, 7);
        x.solve();
        due("half full: line 2 waits", x.departs(2), 90);
        return x;
    }

    /** What all the calls that ask answer. */
    private static void ask(LateRoutes x, List<Long> answers) {
        for (int n = 0; n <= 13; n++) {
            answers.add(x.departs(n));
        }
        for (int n = 0; n <= 7; n++) {
            answers.add(x.arrival(n));
            answers.add((long) x.chosen(n));
            answers.add((long) x.none(n));
        }
        answers.add((long) x.acts());
    }

    /** First what is chosen is asked for, then harm and all that can be added. */
    private static List<Long> probeBySolving(LateRoutes x) {
        List<Long> answers = new ArrayList<>();
        ask(x, answers);
        answers.add(x.solve());
        ask(x, answers);
        for (int load = 1; load <= 6; load++) {
            for (int i = 0; i < 5; i++) {
                answers.add((long) x.option(load, 2, 0, 10 * i));
            }
        }
        answers.add((long) x.load(1, 2, 70, 3));
        answers.add((long) x.line(1, 2, 80, 90));
        ask(x, answers);
        answers.add(x.solve());
        ask(x, answers);
        return answers;
    }

    /** First what lines may wait is asked for, then all are told and run late. */
    private static List<Long> probeByDelays(LateRoutes x) {
        List<Long> answers = new ArrayList<>();
        for (int line = 1; line <= 12; line++) {
            answers.add((long) x.waits(line, 5 * line));
        }
        ask(x, answers);
        for (int line = 1; line <= 12; line++) {
            answers.add((long) x.tell(line, 11 * line % 17));
        }
        ask(x, answers);
        answers.add(x.solve());
        for (int line = 12; line >= 1; line--) {
            answers.add((long) x.late(line, 13 * line % 29));
        }
        ask(x, answers);
        return answers;
    }

    /** The refused call is made in each scene; if it is not refused there, that scene is passed by. */
    private static void changesNothing(String what, int refusal, ToLongFunction<LateRoutes> call) {
        int refused = 0;
        for (Supplier<LateRoutes> scene : scenes()) {
            LateRoutes x = scene.get();
            if (call.applyAsLong(x) != refusal) {
                continue;
            }
            refused++;
            CHECKS.isTrue(what + " refused, then solved",
                probeBySolving(x).equals(probeBySolving(scene.get())));
            LateRoutes y = scene.get();
            call.applyAsLong(y);
            CHECKS.isTrue(what + " refused, then late",
                probeByDelays(y).equals(probeByDelays(scene.get())));
        }
        CHECKS.isTrue(what + " is refused somewhere", refused > 0);
    }

    private static void lineRefusedChangesNothing() {
        changesNothing("line: from -1", OUTSIDE, x -> x.line(-1, 1, 0, 1));
        changesNothing("line: from 10", OUTSIDE, x -> x.line(10, 1, 0, 1));
        changesNothing("line: to -1", OUTSIDE, x -> x.line(1, -1, 0, 1));
        changesNothing("line: to 10", OUTSIDE, x -> x.line(1, 10, 0, 1));
        changesNothing("line: from is to", OUTSIDE, x -> x.line(1, 1, 0, 1));
        changesNothing("line: leaves -1", OUTSIDE, x -> x.line(1, 2, -1, 1));
        changesNothing("line: leaves 10000", OUTSIDE, x -> x.line(1, 2, 10000, 10000));
        changesNothing("line: arrives 10001", OUTSIDE, x -> x.line(1, 2, 0, 10001));
        changesNothing("line: arrives as it leaves", OUTSIDE, x -> x.line(1, 2, 5, 5));
        changesNothing("line: arrives before it leaves", OUTSIDE, x -> x.line(1, 2, 5, 4));
        changesNothing("line: no room", ROOM, x -> x.line(1, 2, 0, 1));
    }

    private static void loadRefusedChangesNothing() {
        changesNothing("load: line 0", UNKNOWN, x -> x.load(0, 2, 0, 1));
        changesNothing("load: line 13", UNKNOWN, x -> x.load(13, 2, 0, 1));
        changesNothing("load: to -1", OUTSIDE, x -> x.load(1, -1, 0, 1));
        changesNothing("load: to 10", OUTSIDE, x -> x.load(1, 10, 0, 1));
        changesNothing("load: due -1", OUTSIDE, x -> x.load(1, 2, -1, 1));
        changesNothing("load: due 20001", OUTSIDE, x -> x.load(1, 2, 20001, 1));
        changesNothing("load: weight 0", OUTSIDE, x -> x.load(1, 2, 0, 0));
        changesNothing("load: weight 101", OUTSIDE, x -> x.load(1, 2, 0, 101));
        changesNothing("load: no room", ROOM, x -> x.load(1, 2, 0, 1));
    }

    private static void optionRefusedChangesNothing() {
        changesNothing("option: load 0", UNKNOWN, x -> x.option(0, 2, 2, 0));
        changesNothing("option: load 7", UNKNOWN, x -> x.option(7, 0, 2, 0));
        changesNothing("option: line 0", UNKNOWN, x -> x.option(1, 0, 0, 0));
        changesNothing("option: line 13", UNKNOWN, x -> x.option(1, 1, 13, 0));
        changesNothing("option: kind -1", OUTSIDE, x -> x.option(1, -1, 2, 0));
        changesNothing("option: kind 3", OUTSIDE, x -> x.option(1, 3, 2, 0));
        changesNothing("option: cost -1", OUTSIDE, x -> x.option(1, 2, 2, -1));
        changesNothing("option: cost 10001", OUTSIDE, x -> x.option(1, 0, 2, 10001));
        changesNothing("option: does not fit", STATE, x -> x.option(1, 0, 1, 0));
        changesNothing("option: does not fit, waits", STATE, x -> x.option(1, 1, 1, 0));
        changesNothing("option: no room", ROOM, x -> x.option(6, 0, 3, 0));
        changesNothing("option: no room, waits", ROOM, x -> x.option(6, 1, 3, 0));
        changesNothing("option: no room, hired", ROOM, x -> x.option(6, 2, 0, 0));
    }

    /** Load 2 is direct where the scene is half full. */
    private static void optionOfDirectRefusedChangesNothing() {
        for (int kind = 0; kind <= 2; kind++) {
            int asked = kind;
            changesNothing("option: direct, kind " + kind, STATE, x -> x.option(2, asked, 2, 0));
        }
    }

    private static void waitsRefusedChangesNothing() {
        changesNothing("waits: line 0", UNKNOWN, x -> x.waits(0, 1));
        changesNothing("waits: line 13", UNKNOWN, x -> x.waits(13, 1));
        for (int line = 1; line <= 12; line++) {
            int asked = line;
            changesNothing("waits: most -1, line " + line, OUTSIDE, x -> x.waits(asked, -1));
            changesNothing("waits: most 601, line " + line, OUTSIDE, x -> x.waits(asked, 601));
        }
    }

    private static void lateRefusedChangesNothing() {
        changesNothing("late: line 0", UNKNOWN, x -> x.late(0, 1));
        changesNothing("late: line 13", UNKNOWN, x -> x.late(13, 1));
        for (int line = 1; line <= 12; line++) {
            int asked = line;
            changesNothing("late: by -1, line " + line, OUTSIDE, x -> x.late(asked, -1));
            changesNothing("late: by 2001, line " + line, OUTSIDE, x -> x.late(asked, 2001));
        }
    }

    private static void tellRefusedChangesNothing() {
        changesNothing("tell: line 0", UNKNOWN, x -> x.tell(0, 1));
        changesNothing("tell: line 13", UNKNOWN, x -> x.tell(13, 1));
        for (int line = 1; line <= 12; line++) {
            int asked = line;
            changesNothing("tell: by -1, line " + line, OUTSIDE, x -> x.tell(asked, -1));
            changesNothing("tell: by 2001, line " + line, OUTSIDE, x -> x.tell(asked, 2001));
        }
    }

    private static void tellRefusedChoosesNothing() {
        LateRoutes x = halfFull();
        due("chosen before", x.chosen(1), 1);
        for (int line = 1; line <= 3; line++) {
            due("tell: -1", x.tell(line, -1), OUTSIDE);
            due("tell: 2001", x.tell(line, 2001), OUTSIDE);
            due("still chosen", x.chosen(1), 1);
            due("still waits", x.departs(2), 90);
            due("still late", x.departs(3), 167);
        }
        due("tell: not refused", x.tell(1, 20), 2);
        due("chosen anew", x.chosen(1), 0);
    }

    /** The calls that ask change nothing either, whatever they are asked for. */
    private static void askingChangesNothing() {
        int[] numbers = {Integer.MIN_VALUE, -1, 0, 1, 2, 6, 7, 12, 13, Integer.MAX_VALUE};
        for (Supplier<LateRoutes> scene : scenes()) {
            LateRoutes x = scene.get();
            LateRoutes y = scene.get();
            for (int n : numbers) {
                askAll(x, n);
                askAll(y, n);
            }
            CHECKS.isTrue("asked, then solved",
                probeBySolving(x).equals(probeBySolving(scene.get())));
            CHECKS.isTrue("asked, then late", probeByDelays(y).equals(probeByDelays(scene.get())));
        }
    }

    private static void askAll(LateRoutes x, int n) {
        x.departs(n);
        x.arrival(n);
        x.chosen(n);
        x.none(n);
        x.acts();
    }

    /** Refusals one behind another, in an object that is full: it stays as it was. */
    private static void manyRefusalsChangeNothing() {
        LateRoutes x = Scenes.full();
        for (int i = 0; i < 12; i++) {
            due("many: line", x.line(0, 1, i, i + 1), ROOM);
            due("many: load", x.load(1, 1, i, 1), ROOM);
            due("many: option", x.option(1 + i % 6, 2, 0, i), ROOM);
            due("many: waits", x.waits(13, i), UNKNOWN);
            due("many: late", x.late(1, 2001 + i), OUTSIDE);
            due("many: tell", x.tell(1, -1 - i), OUTSIDE);
        }
        CHECKS.isTrue("many: nothing changed",
            probeBySolving(x).equals(probeBySolving(Scenes.full())));
    }
}
