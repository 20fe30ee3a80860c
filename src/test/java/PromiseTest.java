/** One method for each promise of the document: ordinary inputs, edges, wrong inputs. */
public final class PromiseTest {
    private static final int UNKNOWN = -11, OUTSIDE = -12, STATE = -13, ROOM = -14;
    private static final Checks CHECKS = new Checks();

    public static void main(String[] args) {
        promise1NewObject();
        promise2Line();
        promise2LineRoom();
        promise3Load();
        promise3LoadRoom();
        promise4Option();
        promise4OptionStates();
        promise4OptionRoom();
        promise5Waits();
        promise6Late();
        promise6LateSetsNotAdds();
        promise7Tell();
        promise7TellAndHired();
        promise7TellOthersMove();
        promise8SolveFewestActs();
        promise8SolveLeastOption();
        promise8SolveCostOfMissed();
        promise8SolveTogether();
        promise8SolveLastOfAllChoices();
        promise9Chosen();
        promise10ArrivalKinds();
        promise10ArrivalOfChain();
        promise11DepartsLastCounts();
        promise11DepartsMostEdge();
        promise11DepartsDelayAndMost();
        promise11DepartsLoadsOutOfOrder();
        promise12None();
        promise13Acts();
        refusedChangesNothing();
        CHECKS.end();
    }

    private static void due(String what, long got, long want) {
        CHECKS.due(what, got, want);
    }

    /** Line 1 from 0 to 1 (0 .. 60); line 2 from 1 to 2 (70 .. 100); line 3 the same (160 .. 200). */
    private static LateRoutes threeLines() {
        LateRoutes x = new LateRoutes();
        due("line 1", x.line(0, 1, 0, 60), 1);
        due("line 2", x.line(1, 2, 70, 100), 2);
        due("line 3", x.line(1, 2, 160, 200), 3);
        return x;
    }

    private static void promise1NewObject() {
        LateRoutes x = new LateRoutes();
        due("1: load on no line", x.load(1, 1, 0, 1), UNKNOWN);
        due("1: departs", x.departs(1), UNKNOWN);
        due("1: arrival", x.arrival(1), UNKNOWN);
        due("1: chosen", x.chosen(1), UNKNOWN);
        due("1: none", x.none(0), -1);
        due("1: acts", x.acts(), 0);
        due("1: solve", x.solve(), 0);
        LateRoutes other = new LateRoutes();
        due("1: line", x.line(0, 1, 0, 1), 1);
        due("1: objects share nothing", other.departs(1), UNKNOWN);
    }

    private static void promise2Line() {
        LateRoutes x = new LateRoutes();
        due("2: from -1", x.line(-1, 1, 0, 1), OUTSIDE);
        due("2: from 10", x.line(10, 1, 0, 1), OUTSIDE);
        due("2: to -1", x.line(1, -1, 0, 1), OUTSIDE);
        due("2: to 10", x.line(1, 10, 0, 1), OUTSIDE);
        due("2: from is to", x.line(3, 3, 0, 1), OUTSIDE);
        due("2: leaves -1", x.line(0, 1, -1, 1), OUTSIDE);
        due("2: arrives 10001", x.line(0, 1, 0, 10001), OUTSIDE);
        due("2: leaves 10000", x.line(0, 1, 10000, 10000), OUTSIDE);
        due("2: arrives as it leaves", x.line(0, 1, 7, 7), OUTSIDE);
        due("2: arrives before", x.line(0, 1, 8, 7), OUTSIDE);
        due("2: long that wraps", x.line(0, 1, 0, 1L << 32 | 5), OUTSIDE);
        due("2: far out", x.line(Integer.MIN_VALUE, Integer.MAX_VALUE, Long.MIN_VALUE,
            Long.MAX_VALUE), OUTSIDE);
        due("2: first", x.line(0, 9, 0, 1), 1);
        due("2: second", x.line(9, 0, 9999, 10000), 2);
        due("2: the same again", x.line(9, 0, 9999, 10000), 3);
        due("2: departs when it leaves", x.departs(2), 9999);
    }

    private static void promise2LineRoom() {
        LateRoutes x = new LateRoutes();
        for (int i = 1; i <= 12; i++) {
            due("2: line " + i, x.line(0, 1, i, i + 1), i);
        }
        due("2: line 13", x.line(0, 1, 0, 1), ROOM);
        due("2: OUTSIDE before ROOM", x.line(0, 0, 0, 1), OUTSIDE);
        due("2: no line 13", x.departs(13), UNKNOWN);
        due("2: line 12 stands", x.departs(12), 12);
    }

    private static void promise3Load() {
        LateRoutes x = threeLines();
        due("3: line 0", x.load(0, 1, 0, 1), UNKNOWN);
        due("3: line 4", x.load(4, 1, 0, 1), UNKNOWN);
        due("3: line -1", x.load(-1, 1, 0, 1), UNKNOWN);
        due("3: UNKNOWN before OUTSIDE", x.load(4, 10, -1, 0), UNKNOWN);
        due("3: to -1", x.load(1, -1, 0, 1), OUTSIDE);
        due("3: to 10", x.load(1, 10, 0, 1), OUTSIDE);
        due("3: due -1", x.load(1, 1, -1, 1), OUTSIDE);
        due("3: due 20001", x.load(1, 1, 20001, 1), OUTSIDE);
        due("3: weight 0", x.load(1, 1, 0, 0), OUTSIDE);
        due("3: weight 101", x.load(1, 1, 0, 101), OUTSIDE);
        due("3: no load yet", x.arrival(1), UNKNOWN);
        due("3: least numbers", x.load(1, 0, 0, 1), 1);
        due("3: greatest numbers", x.load(3, 9, 20000, 100), 2);
        due("3: to where its line comes from, it is left", x.arrival(1), 1500);
        due("3: left", x.arrival(2), 1640);
    }

    private static void promise3LoadRoom() {
        LateRoutes x = threeLines();
        for (int i = 1; i <= 6; i++) {
            due("3: load " + i, x.load(1, 2, i, i), i);
        }
        due("3: load 7", x.load(1, 2, 0, 1), ROOM);
        due("3: OUTSIDE before ROOM", x.load(1, 2, 0, 101), OUTSIDE);
        due("3: UNKNOWN before ROOM", x.load(4, 2, 0, 1), UNKNOWN);
        due("3: no load 7", x.chosen(7), UNKNOWN);
    }

    private static void promise4Option() {
        LateRoutes x = threeLines();
        x.load(1, 2, 0, 1);
        due("4: load 0", x.option(0, 0, 2, 0), UNKNOWN);
        due("4: load 2", x.option(2, 2, 2, 0), UNKNOWN);
        due("4: kind 0, line 0", x.option(1, 0, 0, 0), UNKNOWN);
        due("4: kind 1, line 4", x.option(1, 1, 4, 0), UNKNOWN);
        due("4: kind 3, line 4", x.option(1, 3, 4, 0), UNKNOWN);
        due("4: kind -1, line 4", x.option(1, -1, 4, 0), UNKNOWN);
        due("4: kind 3", x.option(1, 3, 2, 0), OUTSIDE);
        due("4: kind -1", x.option(1, -1, 2, 0), OUTSIDE);
        due("4: cost -1", x.option(1, 0, 2, -1), OUTSIDE);
        due("4: cost 10001", x.option(1, 2, 0, 10001), OUTSIDE);
        due("4: UNKNOWN before OUTSIDE", x.option(1, 0, 4, -1), UNKNOWN);
        due("4: nothing is chosen", x.chosen(1), -1);
        due("4: hired, no line looked at", x.option(1, 2, Integer.MIN_VALUE, 10000), 0);
        due("4: option 0 is chosen", x.chosen(1), 0);
        due("4: arrival", x.arrival(1), 120);
        due("4: goes on", x.option(1, 0, 2, 0), 1);
        due("4: option 0 is still chosen", x.chosen(1), 0);
        due("4: arrival is still that", x.arrival(1), 120);
    }

    private static void promise4OptionStates() {
        LateRoutes x = new LateRoutes();
        x.line(0, 1, 50, 60);
        x.line(1, 2, 50, 90);
        x.line(1, 2, 49, 90);
        x.line(1, 3, 70, 90);
        x.line(0, 2, 70, 90);
        x.line(1, 2, 51, 90);
        x.load(1, 2, 0, 1);
        x.load(1, 1, 0, 1);
        due("4: leaves as the first one", x.option(1, 0, 2, 0), STATE);
        due("4: leaves before the first one", x.option(1, 1, 3, 0), STATE);
        due("4: goes elsewhere", x.option(1, 0, 4, 0), STATE);
        due("4: goes from elsewhere", x.option(1, 0, 5, 0), STATE);
        due("4: the first line itself", x.option(1, 0, 1, 0), STATE);
        due("4: OUTSIDE before STATE", x.option(1, 0, 4, 10001), OUTSIDE);
        due("4: direct, goes on", x.option(2, 0, 6, 0), STATE);
        due("4: direct, hired", x.option(2, 2, 0, 0), STATE);
        due("4: direct, UNKNOWN before STATE", x.option(2, 0, 7, 0), UNKNOWN);
        due("4: leaves a minute later", x.option(1, 0, 6, 0), 0);
        due("4: the delay does not tell", x.late(1, 2000), 2);
        due("4: leaves a minute later, first one late", x.option(1, 1, 6, 0), 1);
    }

    private static void promise4OptionRoom() {
        LateRoutes x = threeLines();
        x.load(1, 2, 0, 1);
        x.load(1, 2, 0, 1);
        for (int i = 0; i < 4; i++) {
            due("4: option " + i, x.option(1, i % 3, 2, i), i);
        }
        due("4: option 4", x.option(1, 0, 2, 0), ROOM);
        due("4: STATE before ROOM", x.option(1, 0, 1, 0), STATE);
        due("4: OUTSIDE before ROOM", x.option(1, 2, 0, -1), OUTSIDE);
        due("4: UNKNOWN before ROOM", x.option(1, 0, 9, 0), UNKNOWN);
        due("4: another load's room", x.option(2, 0, 2, 0), 0);
    }

    private static void promise5Waits() {
        LateRoutes x = threeLines();
        due("5: line 0", x.waits(0, 1), UNKNOWN);
        due("5: line 4", x.waits(4, -1), UNKNOWN);
        due("5: most -1", x.waits(2, -1), OUTSIDE);
        due("5: most 601", x.waits(2, 601), OUTSIDE);
        due("5: 0 at first", x.waits(2, 600), 0);
        due("5: what it was", x.waits(2, 5), 600);
        due("5: refused changes nothing", x.waits(2, 601), OUTSIDE);
        due("5: what it was", x.waits(2, 0), 5);
        due("5: each line its own", x.waits(3, 0), 0);
        x.load(1, 2, 0, 1);
        x.option(1, 1, 2, 0);
        x.late(1, 3);
        due("5: it may not wait", x.departs(2), 70);
        due("5: now it may", x.waits(2, 3), 0);
        due("5: and does", x.departs(2), 73);
        due("5: and it takes the load", x.arrival(1), 103);
    }

    private static void promise6Late() {
        LateRoutes x = threeLines();
        due("6: line 0", x.late(0, 0), UNKNOWN);
        due("6: line 4", x.late(4, 2001), UNKNOWN);
        due("6: by -1", x.late(1, -1), OUTSIDE);
        due("6: by 2001", x.late(1, 2001), OUTSIDE);
        due("6: no loads", x.late(1, 2000), 0);
        due("6: departs", x.departs(1), 2000);
        x.late(1, 0);
        x.load(1, 1, 60, 1);
        x.load(1, 2, 20000, 1);
        x.load(2, 2, 100, 1);
        due("6: left, though not behind", x.late(3, 0), 1);
        due("6: at DUE is not behind", x.late(2, 0), 1);
        due("6: a minute behind", x.late(2, 1), 2);
        due("6: all", x.late(1, 1), 3);
        x.option(2, 0, 3, 0);
        due("6: no more left", x.late(1, 0), 1);
        due("6: a line that no load is on", x.late(2, 0), 0);
    }

    private static void promise6LateSetsNotAdds() {
        LateRoutes x = threeLines();
        x.load(1, 2, 300, 1);
        x.option(1, 0, 2, 0);
        x.option(1, 0, 3, 0);
        x.late(2, 7);
        x.late(2, 5);
        due("6: the last delay", x.departs(2), 75);
        due("6: it just catches", x.late(1, 5), 0);
        due("6: it just misses", x.late(1, 6), 1);
        due("6: the choice stays", x.chosen(1), 0);
        due("6: left", x.arrival(1), 66 + 1440);
        x.solve();
        due("6: solved", x.chosen(1), 1);
        x.late(1, 0);
        due("6: the choice stays", x.chosen(1), 1);
    }

    private static void promise7Tell() {
        LateRoutes x = threeLines();
        x.line(1, 2, 300, 310);
        due("7: line 0", x.tell(0, 0), UNKNOWN);
        due("7: line 5", x.tell(5, -1), UNKNOWN);
        due("7: by -1", x.tell(1, -1), OUTSIDE);
        due("7: by 2001", x.tell(1, 2001), OUTSIDE);
        x.load(1, 2, 0, 1);
        x.option(1, 0, 3, 0);
        x.option(1, 0, 2, 0);
        x.load(1, 3, 0, 1);
        due("7: the best", x.solve(), 100 + 1500);
        due("7: option 1", x.chosen(1), 1);
        due("7: a line that it has nothing of", x.tell(4, 9), 0);
        due("7: still option 1", x.chosen(1), 1);
        due("7: the delay stands", x.departs(4), 309);
        due("7: the line of an option that is not chosen", x.tell(3, 0), 1);
        due("7: option 0", x.chosen(1), 0);
        x.solve();
        due("7: the line of the option that is chosen", x.tell(2, 0), 1);
        due("7: option 0", x.chosen(1), 0);
        x.solve();
        due("7: the line that it begins on", x.tell(1, 1), 2);
        due("7: option 0", x.chosen(1), 0);
        due("7: without options", x.chosen(2), -1);
        due("7: the delay is set", x.departs(1), 1);
        due("7: told the same again", x.tell(1, 1), 0);
    }

    private static void promise7TellAndHired() {
        LateRoutes x = threeLines();
        x.load(1, 2, 0, 1);
        x.option(1, 0, 3, 0);
        x.option(1, 2, 2, 0);
        due("7: hired is best", x.solve(), 120);
        due("7: hired, its line is not looked at", x.tell(2, 0), 0);
        due("7: so it stays", x.chosen(1), 1);
        due("7: but line 3 is an option's", x.tell(3, 0), 1);
        due("7: so it goes", x.chosen(1), 0);
    }

    private static void promise7TellOthersMove() {
        LateRoutes x = threeLines();
        x.waits(2, 30);
        x.load(2, 2, 0, 1);
        x.load(1, 2, 0, 1);
        x.option(2, 0, 3, 0);
        x.option(2, 1, 2, 0);
        x.late(1, 20);
        x.solve();
        due("7: it waits", x.departs(2), 90);
        due("7: the load on the line that waited moves too", x.tell(1, 20), 2);
        due("7: it waits no more", x.departs(2), 70);
        due("7: direct", x.arrival(1), 100);
        due("7: by line 3", x.arrival(2), 200);
    }

    private static void promise8SolveFewestActs() {
        LateRoutes x = threeLines();
        x.load(1, 2, 1000, 1);
        x.option(1, 2, 0, 0);
        x.option(1, 1, 2, 0);
        x.option(1, 0, 3, 0);
        x.option(1, 0, 2, 0);
        due("8: no harm", x.solve(), 0);
        due("8: of these the fewest acts, the least option", x.chosen(1), 2);
        due("8: no acts", x.acts(), 0);
        LateRoutes y = threeLines();
        y.load(1, 2, 1000, 1);
        y.option(1, 2, 0, 4);
        y.option(1, 0, 2, 5);
        due("8: harm before acts", y.solve(), 4);
        due("8: option", y.chosen(1), 0);
    }

    /** Two loads between which the delay of either is equally dear: the first keeps option 0. */
    private static void promise8SolveLeastOption() {
        LateRoutes x = threeLines();
        x.load(1, 2, 1000, 1);
        x.load(1, 2, 1000, 1);
        for (int load = 1; load <= 2; load++) {
            x.option(load, 0, 2, 3);
            x.option(load, 0, 3, 3);
        }
        due("8: costs", x.solve(), 6);
        due("8: first", x.chosen(1), 0);
        due("8: second", x.chosen(2), 0);
        x.late(1, 1);
        due("8: costs", x.solve(), 6);
        due("8: first", x.chosen(1), 1);
        due("8: second", x.chosen(2), 1);

        LateRoutes y = new LateRoutes();
        y.line(0, 1, 0, 60);
        y.line(1, 2, 70, 100);
        y.waits(2, 5);
        y.late(1, 5);
        y.load(1, 2, 1000, 1);
        y.load(1, 2, 1000, 1);
        for (int load = 1; load <= 2; load++) {
            y.option(load, 0, 2, 0);
            y.option(load, 1, 2, 0);
        }
        due("8: one asks, both go", y.solve(), 0);
        due("8: the first differs first, so it keeps option 0", y.chosen(1), 0);
        due("8: and the second asks", y.chosen(2), 1);
        due("8: one act", y.acts(), 1);
        due("8: first arrives", y.arrival(1), 105);
        due("8: second arrives", y.arrival(2), 105);
    }

    private static void promise8SolveCostOfMissed() {
        LateRoutes x = threeLines();
        x.late(1, 100);
        x.load(1, 2, 0, 2);
        x.option(1, 1, 2, 10);
        due("8: harm of one that misses", x.solve(), 2 * (160 + 1440) + 10);
        due("8: still an act", x.acts(), 1);
        due("8: still left", x.none(0), 1);
        x.option(1, 2, 0, 10000);
        due("8: dear, but not so dear", x.solve(), 2 * (160 + 1440) + 10);
        x.option(1, 2, 0, 300);
        due("8: hired", x.solve(), 2 * 220 + 300);
        due("8: hired", x.chosen(1), 2);
    }

    /** A line that waits for one load makes another one miss: together they are weighed. */
    private static void promise8SolveTogether() {
        LateRoutes x = new LateRoutes();
        x.line(0, 1, 0, 60);
        x.line(1, 2, 70, 100);
        x.line(2, 3, 110, 130);
        x.waits(2, 30);
        x.load(1, 2, 100, 1);
        x.load(2, 3, 130, 1);
        x.option(1, 0, 2, 0);
        x.option(1, 1, 2, 0);
        x.option(1, 2, 0, 100);
        x.option(2, 0, 3, 0);
        x.late(1, 5);
        due("8: hired, so that line 3 is caught", x.solve(), 25 + 100);
        due("8: first", x.chosen(1), 2);
        due("8: second", x.arrival(2), 130);
        x.option(2, 1, 3, 0);
        x.waits(3, 5);
        due("8: both wait", x.solve(), 5 + 5);
        due("8: first", x.chosen(1), 1);
        due("8: second", x.chosen(2), 1);
        due("8: line 2", x.departs(2), 75);
        due("8: line 3", x.departs(3), 115);
        due("8: first", x.arrival(1), 105);
        due("8: second", x.arrival(2), 135);
        due("8: solved again", x.solve(), 10);
    }

    /** All the room there is, and the very last choice is the best one. */
    private static void promise8SolveLastOfAllChoices() {
        LateRoutes x = threeLines();
        for (int load = 1; load <= 6; load++) {
            x.load(1, 2, 20000, 1);
            for (int i = 0; i < 4; i++) {
                x.option(load, i % 3, 3, 3 - i);
            }
        }
        due("8: no costs", x.solve(), 0);
        for (int load = 1; load <= 6; load++) {
            due("8: the last option", x.chosen(load), 3);
        }
    }

    private static void promise9Chosen() {
        LateRoutes x = threeLines();
        due("9: load 0", x.chosen(0), UNKNOWN);
        due("9: load 1", x.chosen(1), UNKNOWN);
        due("9: load -1", x.chosen(-1), UNKNOWN);
        x.load(1, 2, 0, 1);
        x.load(1, 1, 0, 1);
        due("9: without options", x.chosen(1), -1);
        due("9: direct", x.chosen(2), -1);
        x.solve();
        due("9: solved without options", x.chosen(1), -1);
        x.option(1, 0, 3, 0);
        x.option(1, 0, 2, 0);
        due("9: at first option 0", x.chosen(1), 0);
        x.solve();
        due("9: solved", x.chosen(1), 1);
        x.option(1, 2, 0, 0);
        due("9: an option more changes no choice", x.chosen(1), 1);
        due("9: load 3", x.chosen(3), UNKNOWN);
    }

    private static void promise10ArrivalKinds() {
        LateRoutes x = threeLines();
        due("10: load 0", x.arrival(0), UNKNOWN);
        due("10: load 1", x.arrival(1), UNKNOWN);
        x.load(1, 1, 0, 1);
        x.load(1, 3, 0, 1);
        x.load(1, 2, 0, 1);
        x.load(1, 2, 0, 1);
        x.load(1, 2, 0, 1);
        x.option(3, 0, 2, 0);
        x.option(4, 1, 3, 0);
        x.option(5, 2, 0, 0);
        due("10: direct", x.arrival(1), 60);
        due("10: without options", x.arrival(2), 1500);
        due("10: goes on, 10 behind", x.arrival(3), 100);
        due("10: its line waits, and need not", x.arrival(4), 200);
        due("10: hired", x.arrival(5), 120);
        x.late(1, 1);
        due("10: direct", x.arrival(1), 61);
        due("10: without options", x.arrival(2), 1501);
        due("10: goes on, 9 behind", x.arrival(3), 1501);
        due("10: hired", x.arrival(5), 121);
        x.late(2, 1);
        due("10: goes on, 10 behind again", x.arrival(3), 101);
        x.late(1, 91);
        due("10: its line may not wait", x.arrival(4), 151 + 1440);
        x.waits(3, 1);
        due("10: its line waits", x.arrival(4), 201);
        due("10: load 6", x.arrival(6), UNKNOWN);
    }

    /** The first line of a load itself waits for another load, and that one's for a third. */
    private static void promise10ArrivalOfChain() {
        LateRoutes x = new LateRoutes();
        x.line(2, 3, 110, 130);
        x.line(1, 2, 70, 100);
        x.line(0, 1, 0, 60);
        x.waits(1, 600);
        x.waits(2, 600);
        x.load(2, 3, 0, 1);
        x.load(3, 2, 0, 1);
        x.load(1, 3, 0, 1);
        x.option(1, 1, 1, 0);
        x.option(2, 1, 2, 0);
        x.late(3, 50);
        due("10: line 3", x.departs(3), 50);
        due("10: line 2 waits", x.departs(2), 120);
        due("10: line 1 waits for what line 2 brings", x.departs(1), 160);
        due("10: third", x.arrival(2), 150);
        due("10: second", x.arrival(1), 180);
        due("10: direct on line 1", x.arrival(3), 180);
    }

    private static void promise11DepartsLastCounts() {
        LateRoutes x = new LateRoutes();
        x.line(0, 1, 0, 60);
        x.line(3, 1, 0, 65);
        x.line(4, 1, 0, 95);
        x.line(1, 2, 70, 100);
        due("11: line 0", x.departs(0), UNKNOWN);
        due("11: line 5", x.departs(5), UNKNOWN);
        due("11: line -1", x.departs(-1), UNKNOWN);
        x.waits(4, 10);
        for (int load = 1; load <= 3; load++) {
            x.load(load, 2, 0, 1);
            x.option(load, 1, 4, 0);
        }
        due("11: behind the last that counts", x.departs(4), 75);
        due("11: first", x.arrival(1), 105);
        due("11: second", x.arrival(2), 105);
        due("11: third misses it", x.arrival(3), 95 + 1440);
        x.load(1, 2, 0, 1);
        x.option(4, 0, 4, 0);
        x.late(1, 5);
        due("11: one that only goes on may use that it waits", x.arrival(4), 105);
        x.late(1, 6);
        due("11: the last is another one", x.departs(4), 76);
        due("11: it does not wait for one that only goes on", x.arrival(4), 106);
        x.waits(4, 0);
        due("11: it waits for none", x.departs(4), 70);
    }

    private static void promise11DepartsMostEdge() {
        LateRoutes x = threeLines();
        x.load(1, 2, 0, 1);
        x.option(1, 1, 2, 0);
        x.waits(2, 600);
        x.late(1, 600);
        due("11: MOST behind", x.departs(2), 670);
        due("11: arrives", x.arrival(1), 700);
        x.late(1, 601);
        due("11: more than MOST behind", x.departs(2), 70);
        due("11: left", x.arrival(1), 661 + 1440);
        x.late(1, 0);
        due("11: not later than it leaves", x.departs(2), 70);
    }

    private static void promise11DepartsDelayAndMost() {
        LateRoutes x = threeLines();
        x.load(1, 2, 0, 1);
        x.option(1, 1, 2, 0);
        x.waits(2, 5);
        x.late(2, 20);
        x.late(1, 15);
        due("11: the delay is enough", x.departs(2), 90);
        due("11: arrives", x.arrival(1), 120);
        x.late(1, 25);
        due("11: MOST behind the delay", x.departs(2), 95);
        due("11: arrives", x.arrival(1), 125);
        x.late(1, 26);
        due("11: more than MOST behind the delay", x.departs(2), 90);
        x.late(2, 2000);
        due("11: greatest delay", x.departs(2), 2070);
    }

    /** Loads numbered against the order in which their first lines leave. */
    private static void promise11DepartsLoadsOutOfOrder() {
        LateRoutes x = new LateRoutes();
        x.line(3, 4, 300, 400);
        x.line(2, 3, 200, 290);
        x.line(1, 2, 100, 190);
        x.line(0, 1, 0, 90);
        for (int line = 1; line <= 3; line++) {
            x.waits(line, 600);
        }
        for (int line = 2; line <= 4; line++) {
            int load = x.load(line, 6 - line, 0, 1);
            due("11: option", x.option(load, 1, line - 1, 0), 0);
        }
        x.late(4, 7);
        due("11: line 3", x.departs(3), 107);
        due("11: line 2", x.departs(2), 207);
        due("11: line 1", x.departs(1), 307);
        due("11: last", x.arrival(1), 407);
    }

    private static void promise12None() {
        LateRoutes x = threeLines();
        x.load(1, 3, 20000, 1);
        x.load(1, 1, 0, 1);
        x.load(1, 2, 0, 1);
        x.load(1, 2, 0, 1);
        x.option(3, 0, 2, 0);
        x.option(4, 1, 2, 0);
        due("12: first", x.none(0), 1);
        due("12: no second", x.none(1), -1);
        x.late(1, 1);
        due("12: first", x.none(0), 1);
        due("12: second", x.none(1), 3);
        due("12: third", x.none(2), 4);
        due("12: no fourth", x.none(3), -1);
        due("12: -1", x.none(-1), -1);
        due("12: far below", x.none(Integer.MIN_VALUE), -1);
        due("12: far above", x.none(Integer.MAX_VALUE), -1);
        x.waits(2, 1);
        due("12: second no more", x.none(1), -1);
    }

    private static void promise13Acts() {
        LateRoutes x = threeLines();
        due("13: none", x.acts(), 0);
        x.load(1, 2, 0, 1);
        x.load(1, 2, 0, 1);
        x.load(1, 2, 0, 1);
        x.load(1, 1, 0, 1);
        x.load(1, 5, 0, 1);
        x.option(1, 0, 2, 0);
        due("13: going on is none", x.acts(), 0);
        x.option(2, 1, 2, 0);
        due("13: waiting is one", x.acts(), 1);
        x.option(3, 2, 0, 0);
        due("13: hiring is one", x.acts(), 2);
        x.option(1, 2, 0, 0);
        due("13: what is not chosen is none", x.acts(), 2);
        x.late(1, 2000);
        due("13: one that misses its line is one", x.acts(), 2);
    }

    private static void refusedChangesNothing() {
        LateRoutes x = threeLines();
        x.load(1, 2, 0, 1);
        x.option(1, 0, 3, 0);
        x.option(1, 2, 0, 0);
        x.waits(2, 4);
        x.late(1, 3);
        x.solve();
        due("refused: line", x.line(0, 0, 0, 1), OUTSIDE);
        due("refused: load", x.load(1, 2, 0, 0), OUTSIDE);
        due("refused: option", x.option(1, 0, 1, 0), STATE);
        due("refused: waits", x.waits(2, 601), OUTSIDE);
        due("refused: late", x.late(1, 2001), OUTSIDE);
        due("refused: tell", x.tell(1, 2001), OUTSIDE);
        due("refused: tell", x.tell(1, -1), OUTSIDE);
        due("still chosen", x.chosen(1), 1);
        due("still arrives", x.arrival(1), 123);
        due("still departs", x.departs(1), 3);
        due("still waits", x.waits(2, 4), 4);
        due("next option", x.option(1, 2, 0, 0), 2);
        due("next load", x.load(1, 2, 0, 1), 2);
        due("next line", x.line(0, 1, 0, 1), 4);
    }
}
