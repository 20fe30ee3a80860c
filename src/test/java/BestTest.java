/**
 * The sentences of HARM, ACTS and "THE BEST choice", and what late() and tell() count, one or more
 * methods for each: a minute, a cost of 1 or one act to either side of where the answer turns.
 */
public final class BestTest {
    private static final Checks CHECKS = new Checks();

    public static void main(String[] args) {
        harmOfNothing();
        harmWithoutOptions();
        harmIsByTheMinutesBehindDue();
        harmIsNeverLessThanNone();
        harmIsByTheWeight();
        harmHasTheCostOfWhatIsChosen();
        harmHasTheCostOfOneThatMisses();
        harmGreatest();
        actsFromNoneToSix();
        actsAreOfKindsOneAndTwo();
        actsOfOneThatMisses();
        bestHasTheLeastHarm();
        bestHasLeastHarmBeforeFewestActs();
        bestHasFewestActs();
        bestCountsActsOfBothKindsAlike();
        bestHasFewestActsBeforeLeastOption();
        bestHasTheLeastOption();
        bestHasTheLeastOptionOfTheFirstThatDiffers();
        bestHasTheLeastOptionOfTheFirstThatDiffersTurned();
        bestOfAllChoices();
        bestAmongSomeWithoutOptions();
        bestIsOfAllTogether();
        bestForgetsWhatWasChosen();
        chosenAtFirst();
        chosenStaysUntilSolvedOrTold();
        lateCountsLeftAndBehind();
        lateCountsFromNoneToSix();
        lateCountsEachOnce();
        tellCountsFromNoneToSix();
        tellCountsByArrivalAlone();
        tellChoosesOptionZeroOfThoseThatBeginOnIt();
        tellChoosesOptionZeroOfThoseWithAnOption();
        tellLeavesTheOthers();
        tellKeepsThoseWithoutOptions();
        tellSetsTheDelay();
        CHECKS.end();
    }

    private static void due(String what, long got, long want) {
        CHECKS.due(what, got, want);
    }

    /** "No lines, no loads": nothing can do harm. */
    private static void harmOfNothing() {
        LateRoutes x = new LateRoutes();
        due("harm of nothing", x.solve(), 0);
        x.line(0, 1, 0, 60);
        x.late(1, 2000);
        due("harm of lines alone", x.solve(), 0);
        due("acts of lines alone", x.acts(), 0);
    }

    private static void harmWithoutOptions() {
        LateRoutes x = Scenes.threeLines();
        x.load(1, 1, 59, 7);
        due("harm of a direct load", x.solve(), 7);
        x.load(1, 2, 1499, 100);
        due("harm of one without options too", x.solve(), 107);
        due("direct: none chosen", x.chosen(1), -1);
        due("without options: none chosen", x.chosen(2), -1);
    }

    /** "its weight by the minutes that it arrives behind DUE (0 if not behind)". */
    private static void harmIsByTheMinutesBehindDue() {
        long[] dueAt = {0, 1, 58, 59, 60, 61, 20000};
        long[] harm = {60, 59, 2, 1, 0, 0, 0};
        for (int i = 0; i < dueAt.length; i++) {
            LateRoutes x = Scenes.threeLines();
            x.load(1, 1, dueAt[i], 1);
            due("harm, due at " + dueAt[i], x.solve(), harm[i]);
        }
    }

    /** One that comes early makes up for none that comes late. */
    private static void harmIsNeverLessThanNone() {
        LateRoutes x = Scenes.threeLines();
        x.load(1, 1, 20000, 100);
        due("harm of one that is early", x.solve(), 0);
        x.load(1, 1, 59, 1);
        due("harm of one early, one late", x.solve(), 1);
    }

    private static void harmIsByTheWeight() {
        for (int weight : new int[] {1, 2, 99, 100}) {
            LateRoutes x = Scenes.threeLines();
            x.load(1, 1, 57, weight);
            due("harm of weight " + weight, x.solve(), 3L * weight);
        }
    }

    /** ".. and the cost of what is chosen", of no other option. */
    private static void harmHasTheCostOfWhatIsChosen() {
        for (int kind = 0; kind <= 2; kind++) {
            for (int cost : new int[] {0, 1, 9999, 10000}) {
                LateRoutes x = Scenes.threeLines();
                x.load(1, 2, 20000, 1);
                x.option(1, kind, 2, cost);
                due("harm of kind " + kind + ", cost " + cost, x.solve(), cost);
                x.option(1, kind, 2, 10000);
                due("harm with a dear one that is not chosen", x.solve(), cost);
            }
        }
    }

    private static void harmHasTheCostOfOneThatMisses() {
        for (int kind = 0; kind <= 1; kind++) {
            LateRoutes x = Scenes.oneLoad();
            x.option(1, kind, 2, 10);
            x.late(1, 1);
            due("harm of one that misses, kind " + kind, x.solve(), 1501 + 10);
        }
    }

    private static void harmGreatest() {
        LateRoutes x = new LateRoutes();
        x.line(0, 1, 9998, 10000);
        x.line(1, 2, 9999, 10000);
        x.late(1, 2000);
        for (int load = 1; load <= 6; load++) {
            x.load(1, 2, 0, 100);
            for (int i = 0; i < 4; i++) {
                x.option(load, i % 2, 2, 10000);
            }
        }
        due("harm of all, greatest of all", x.solve(), 6 * (100 * (12000 + 1440) + 10000));
        due("all are left", x.none(5), 6);
        due("no acts", x.acts(), 0);
    }

    /** "ACTS are chosen options of kinds 1 and 2". */
    private static void actsFromNoneToSix() {
        LateRoutes x = Scenes.loads(6);
        due("acts without options", x.acts(), 0);
        for (int load = 1; load <= 6; load++) {
            x.option(load, 1 + load % 2, 2, 0);
            due("acts of " + load, x.acts(), load);
        }
    }

    private static void actsAreOfKindsOneAndTwo() {
        for (int kind = 0; kind <= 2; kind++) {
            LateRoutes x = Scenes.oneOption(kind, 2);
            due("acts of kind " + kind, x.acts(), kind == 0 ? 0 : 1);
            for (int other = 0; other <= 2; other++) {
                x.option(1, other, 2, 10000);
            }
            due("acts of kind " + kind + ", not of what is not chosen", x.acts(), kind == 0 ? 0 : 1);
        }
    }

    private static void actsOfOneThatMisses() {
        LateRoutes x = Scenes.oneOption(1, 2);
        x.late(1, 1);
        due("it misses its line", x.none(0), 1);
        due("it is an act still", x.acts(), 1);
    }

    /** "the least sum of harm": a cost of 1 to either side of what an option saves. */
    private static void bestHasTheLeastHarm() {
        for (int cost = 99; cost <= 101; cost++) {
            LateRoutes x = Scenes.oneLoad();
            x.option(1, 0, 2, cost);
            x.option(1, 0, 3, 0);
            due("least harm, cost " + cost, x.solve(), Math.min(100 + cost, 200));
            due("chosen, cost " + cost, x.chosen(1), cost <= 100 ? 0 : 1);
        }
    }

    /** A harm less by 1 is worth any number of acts. */
    private static void bestHasLeastHarmBeforeFewestActs() {
        LateRoutes x = Scenes.threeLines();
        for (int load = 1; load <= 6; load++) {
            x.load(1, 2, 20000, 1);
            x.option(load, 0, 2, load == 1 ? 1 : 0);
            x.option(load, 2, 0, load == 1 ? 0 : 1);
        }
        due("least harm", x.solve(), 0);
        due("by an act", x.chosen(1), 1);
        due("one act", x.acts(), 1);
    }

    /** "of these the fewest acts". */
    private static void bestHasFewestActs() {
        for (int kind = 1; kind <= 2; kind++) {
            LateRoutes x = Scenes.threeLines();
            for (int load = 1; load <= 6; load++) {
                x.load(1, 2, 20000, 1);
                x.option(load, kind, 2, 5);
                x.option(load, kind, 3, 5);
                x.option(load, 0, 3, 5);
                x.option(load, 0, 2, 5);
            }
            due("acts at first", x.acts(), 6);
            due("harm", x.solve(), 30);
            due("fewest acts", x.acts(), 0);
            for (int load = 1; load <= 6; load++) {
                due("chosen by load " + load, x.chosen(load), 2);
            }
        }
    }

    private static void bestCountsActsOfBothKindsAlike() {
        for (int kind = 1; kind <= 2; kind++) {
            LateRoutes x = Scenes.threeLines();
            x.load(1, 2, 20000, 1);
            x.option(1, kind, 2, 5);
            x.option(1, 3 - kind, 2, 5);
            due("harm", x.solve(), 5);
            due("both are acts, so the least option", x.chosen(1), 0);
        }
    }

    /** One act less goes before a lesser option of an earlier load. */
    private static void bestHasFewestActsBeforeLeastOption() {
        LateRoutes x = Scenes.threeLines();
        x.load(1, 2, 20000, 1);
        x.load(1, 2, 20000, 1);
        x.option(1, 2, 0, 0);
        x.option(1, 0, 2, 0);
        x.option(2, 0, 2, 0);
        x.option(2, 2, 0, 0);
        due("harm", x.solve(), 0);
        due("load 1 goes on", x.chosen(1), 1);
        due("load 2 goes on", x.chosen(2), 0);
        due("no acts", x.acts(), 0);
    }

    /** ".. the least option": all are equally good. */
    private static void bestHasTheLeastOption() {
        for (int kind = 0; kind <= 2; kind++) {
            LateRoutes x = Scenes.threeLines();
            for (int load = 1; load <= 6; load++) {
                x.load(1, 2, 20000, load);
                for (int i = 0; i < 4; i++) {
                    x.option(load, kind, 2 + i % 2, 3);
                }
            }
            due("all equally good", x.solve(), 18);
            for (int load = 1; load <= 6; load++) {
                due("least option of load " + load, x.chosen(load), 0);
            }
        }
    }

    /** Loads that come 5 late for a line that may wait 5; options to go on and to have it wait. */
    private static LateRoutes oneMustAsk(int loads, int firstKind) {
        LateRoutes x = Scenes.threeLines();
        x.waits(2, 5);
        x.late(1, 5);
        for (int load = 1; load <= loads; load++) {
            x.load(1, 2, 105, 1);
            x.option(load, firstKind, 2, 0);
            x.option(load, 1 - firstKind, 2, 0);
        }
        return x;
    }

    /** ".. of the first load in which they differ": all but the last keep option 0. */
    private static void bestHasTheLeastOptionOfTheFirstThatDiffers() {
        for (int loads = 1; loads <= 6; loads++) {
            LateRoutes x = oneMustAsk(loads, 0);
            due("no harm", x.solve(), 0);
            due("one act", x.acts(), 1);
            for (int load = 1; load <= loads; load++) {
                due("load " + load + " of " + loads, x.chosen(load), load == loads ? 1 : 0);
            }
        }
    }

    /** To have it wait is option 0 here, so the first load is the one that asks. */
    private static void bestHasTheLeastOptionOfTheFirstThatDiffersTurned() {
        for (int loads = 1; loads <= 6; loads++) {
            LateRoutes x = oneMustAsk(loads, 1);
            due("no harm", x.solve(), 0);
            due("one act", x.acts(), 1);
            for (int load = 1; load <= loads; load++) {
                due("load " + load + " of " + loads, x.chosen(load), load == 1 ? 0 : 1);
            }
        }
    }

    /** All loads with all options, and one choice alone is the best: the first, the last, others. */
    private static void bestOfAllChoices() {
        int[] wanted = {0, 1, 1024, 1365, 2048, 2730, 3072, 4091, 4094, 4095};
        for (int choice : wanted) {
            LateRoutes x = Scenes.threeLines();
            for (int load = 1; load <= 6; load++) {
                int best = choice >> 2 * (6 - load) & 3;
                x.load(1, 2, 20000, 1);
                for (int i = 0; i < 4; i++) {
                    x.option(load, i % 3, 2, i == best ? 0 : 1);
                }
            }
            due("choice " + choice, x.solve(), 0);
            for (int load = 1; load <= 6; load++) {
                due("choice " + choice + ", load " + load, x.chosen(load),
                    choice >> 2 * (6 - load) & 3);
            }
        }
    }

    /** A direct load, or one without options, before, between and behind those with a choice. */
    private static void bestAmongSomeWithoutOptions() {
        for (int without = 1; without <= 6; without++) {
            LateRoutes x = Scenes.threeLines();
            for (int load = 1; load <= 6; load++) {
                x.load(1, load == without ? 1 + load % 2 : 2, 20000, 1);
                if (load != without) {
                    x.option(load, 0, 3, 2);
                    x.option(load, 0, 2, 1);
                }
            }
            due("harm, none for load " + without, x.solve(), 5);
            for (int load = 1; load <= 6; load++) {
                due("load " + load + ", none for " + without, x.chosen(load),
                    load == without ? -1 : 1);
            }
        }
    }

    /** The line waits for a load of weight 2, but not if that makes one of weight 2 come as late. */
    private static void bestIsOfAllTogether() {
        for (int weight = 1; weight <= 3; weight++) {
            LateRoutes x = Scenes.threeLines();
            x.waits(2, 90);
            x.late(1, 50);
            x.load(2, 2, 100, weight);
            x.load(1, 2, 150, 2);
            x.option(2, 0, 3, 0);
            x.option(2, 1, 2, 0);
            boolean waits = weight < 2;
            due("harm, weight " + weight, x.solve(), waits ? 50 * weight : 100);
            due("waits, weight " + weight, x.departs(2), waits ? 120 : 70);
            due("chosen, weight " + weight, x.chosen(2), waits ? 1 : 0);
        }
    }

    private static void bestForgetsWhatWasChosen() {
        LateRoutes x = Scenes.threeLines();
        x.load(1, 2, 20000, 1);
        x.option(1, 0, 2, 0);
        x.option(1, 0, 3, 0);
        x.late(1, 1);
        due("only the last is caught, neither does harm", x.solve(), 0);
        due("so the least is chosen", x.chosen(1), 0);
        LateRoutes y = Scenes.threeLines();
        y.load(1, 2, 200, 1);
        y.option(1, 0, 2, 0);
        y.option(1, 0, 3, 0);
        y.late(1, 1);
        due("only the last is caught", y.solve(), 0);
        due("so it is chosen", y.chosen(1), 1);
        y.late(1, 0);
        due("it stays so", y.chosen(1), 1);
        due("both are caught", y.solve(), 0);
        due("so the least is chosen again", y.chosen(1), 0);
        due("solved again it is the same", y.solve(), 0);
        due("so is what is chosen", y.chosen(1), 0);
    }

    /** "Of each load with options one is CHOSEN, at first option 0"; chosen: "-1 without options". */
    private static void chosenAtFirst() {
        LateRoutes x = Scenes.loads(6);
        for (int load = 1; load <= 6; load++) {
            due("without options, load " + load, x.chosen(load), -1);
            for (int i = 0; i < 4; i++) {
                x.option(load, 0, 2, 10 - i);
                due("at first, load " + load + " with " + (i + 1), x.chosen(load), 0);
            }
        }
    }

    private static void chosenStaysUntilSolvedOrTold() {
        LateRoutes x = Scenes.oneOption(0, 3);
        x.option(1, 0, 2, 0);
        x.solve();
        due("solved", x.chosen(1), 1);
        x.option(1, 0, 2, 0);
        x.waits(2, 600);
        x.late(1, 2000);
        x.line(0, 1, 0, 1);
        x.load(1, 2, 0, 1);
        due("other calls choose nothing", x.chosen(1), 1);
        due("the new load has none", x.chosen(2), -1);
        x.tell(1, 0);
        due("told", x.chosen(1), 0);
    }

    /** late: "how many loads are left, or arrive behind DUE". */
    private static void lateCountsLeftAndBehind() {
        for (long dueAt = 60; dueAt <= 62; dueAt++) {
            LateRoutes x = Scenes.threeLines();
            x.load(1, 1, dueAt, 1);
            due("late by 1, due at " + dueAt, x.late(1, 1), dueAt < 61 ? 1 : 0);
        }
        LateRoutes x = Scenes.threeLines();
        x.load(1, 2, 1501, 1);
        due("left, and not behind DUE", x.late(1, 1), 1);
        x.option(1, 0, 3, 0);
        due("not left, not behind DUE", x.late(1, 1), 0);
    }

    private static void lateCountsFromNoneToSix() {
        LateRoutes x = new LateRoutes();
        x.line(0, 1, 0, 60);
        due("no loads", x.late(1, 2000), 0);
        for (int load = 1; load <= 6; load++) {
            x.load(1, 1, 60 + load, 1);
        }
        for (int by = 0; by <= 7; by++) {
            due("late by " + by, x.late(1, by), by == 0 ? 0 : by - 1);
        }
        due("late by all", x.late(1, 2000), 6);
        due("late by none", x.late(1, 0), 0);
    }

    private static void lateCountsEachOnce() {
        LateRoutes x = Scenes.loads(6);
        due("all left and behind", x.late(1, 0), 6);
        due("whatever line is late", x.late(3, 5), 6);
    }

    /** tell: "how many loads arrive at another time than before". */
    private static void tellCountsFromNoneToSix() {
        LateRoutes x = Scenes.threeLines();
        due("no loads", x.tell(1, 5), 0);
        for (int load = 1; load <= 6; load++) {
            x.load(1, load % 2 == 0 ? 1 : 2, 0, 1);
            due("a minute later, loads " + load, x.tell(1, 5 + load), load);
            due("the same again, loads " + load, x.tell(1, 5 + load), 0);
            due("another line, loads " + load, x.tell(2, load), 0);
        }
        due("a minute earlier", x.tell(1, 10), 6);
        due("as it should", x.tell(1, 0), 6);
    }

    /** Another choice or another line that arrives at the same time is no other time. */
    private static void tellCountsByArrivalAlone() {
        LateRoutes x = new LateRoutes();
        x.line(0, 1, 0, 60);
        x.line(1, 2, 80, 120);
        x.load(1, 2, 0, 1);
        x.option(1, 2, 0, 5);
        x.option(1, 0, 2, 0);
        x.solve();
        due("goes on", x.chosen(1), 1);
        due("hired it arrives at the same time", x.tell(2, 0), 0);
        due("though it is hired now", x.chosen(1), 0);
        x.solve();
        due("nor does it by the delay of the line that it leaves", x.tell(2, 30), 0);
        due("it is hired", x.arrival(1), 120);
    }

    /** tell: "loads that begin on it .. choose option 0". */
    private static void tellChoosesOptionZeroOfThoseThatBeginOnIt() {
        LateRoutes x = Scenes.full();
        x.solve();
        int changed = 0;
        for (int load = 1; load <= 6; load++) {
            changed += x.chosen(load) != 0 && load % 2 == 0 ? 1 : 0;
        }
        CHECKS.isTrue("loads on line 1 chose other options", changed > 0);
        x.tell(1, 1);
        for (int load = 2; load <= 6; load += 2) {
            due("begins on line 1, load " + load, x.chosen(load), 0);
        }
    }

    /** tell: ".. or have an option with it, choose option 0": whichever option, chosen or not. */
    private static void tellChoosesOptionZeroOfThoseWithAnOption() {
        for (int kind = 0; kind <= 1; kind++) {
            for (int at = 0; at < 4; at++) {
                LateRoutes x = Scenes.oneLoad();
                x.line(1, 2, 300, 400);
                for (int i = 0; i < 4; i++) {
                    x.option(1, i == at ? kind : 0, i == at ? 3 : 4, i == 2 ? 0 : 10000);
                }
                x.solve();
                due("chosen, with line 3 at " + at, x.chosen(1), 2);
                x.tell(2, 0);
                due("told of line 2, with line 3 at " + at, x.chosen(1), 2);
                x.tell(3, 0);
                due("told of line 3, with line 3 at " + at, x.chosen(1), 0);
            }
        }
    }

    private static void tellLeavesTheOthers() {
        LateRoutes x = Scenes.threeLines();
        x.line(3, 1, 0, 60);
        for (int load = 1; load <= 6; load++) {
            x.load(load <= 3 ? 1 : 4, 2, 0, 1);
            x.option(load, 0, 3, 0);
            x.option(load, 2, 0, 0);
        }
        x.solve();
        due("told of a line that three begin on", x.tell(1, 0), 3);
        for (int load = 1; load <= 6; load++) {
            due("told of line 1, load " + load, x.chosen(load), load <= 3 ? 0 : 1);
        }
        due("told of a line that none has", x.tell(2, 5), 0);
        due("load 6 keeps what it chose", x.chosen(6), 1);
        due("told of a line that all have an option with", x.tell(3, 0), 3);
        due("load 6 chooses option 0", x.chosen(6), 0);
    }

    private static void tellKeepsThoseWithoutOptions() {
        LateRoutes x = Scenes.loads(1);
        x.load(1, 1, 0, 1);
        due("told", x.tell(1, 1), 2);
        due("without options", x.chosen(1), -1);
        due("direct", x.chosen(2), -1);
    }

    private static void tellSetsTheDelay() {
        LateRoutes x = Scenes.threeLines();
        for (int by : new int[] {2000, 1999, 1, 0}) {
            x.late(2, 100);
            due("told", x.tell(2, by), 0);
            due("told late by " + by, x.departs(2), 70 + by);
        }
    }
}
