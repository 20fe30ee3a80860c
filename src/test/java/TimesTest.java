/**
 * The sentences of "TIMES, by what is chosen" and "THE ARRIVAL of a load", one or more methods for
 * each: a minute before each bound, at it and a minute behind it. Most begin with
 * Scenes.threeLines(): line 1 comes at 60, line 2 leaves at 70, just 10 behind that.
 */
public final class TimesTest {
    private static final Checks CHECKS = new Checks();
    private static final int LEFT = 1440;

    public static void main(String[] args) {
        departsWhenItLeavesAndTheDelay();
        departsAtTheLastTimes();
        waitsOnlyIfThatIsLater();
        waitsOnlyIfLaterThanTheDelay();
        waitsForTheLastOfThese();
        waitsForTheLastOfSix();
        waitsForNoneButThoseThatChoseIt();
        waitsNotForOptionsOfOtherLines();
        waitsMostAndNoMore();
        waitsMostBehindTheDelay();
        waitsMostIsNotBehindOthersWaiting();
        waitsForTheOthersOfOneThatMisses();
        arrivesAsMuchLater();
        comesWhenTheFirstLineArrives();
        comesWithAFirstLineThatWaits();
        linesInTheOrderInWhichTheyLeave();
        linesThatLeaveAtOneTime();
        longestChainOfLines();
        arrivalOfDirectLoad();
        arrivalGoingOn();
        arrivalGoingOnWithOneThatWaitsForAnother();
        arrivalOnLineThatWaits();
        arrivalHired();
        arrivalWithoutOption();
        arrivalWithoutAnyLineToGoOnBy();
        arrivalOfAllThatMiss();
        CHECKS.end();
    }

    private static void due(String what, long got, long want) {
        CHECKS.due(what, got, want);
    }

    /** "A line DEPARTS when it leaves, and the delay". */
    private static void departsWhenItLeavesAndTheDelay() {
        LateRoutes x = Scenes.threeLines();
        for (int by : new int[] {0, 1, 1999, 2000, 1, 0}) {
            x.late(2, by);
            due("departs, late by " + by, x.departs(2), 70 + by);
            due("departs, another line", x.departs(3), 160);
            x.tell(3, by);
            due("departs, told late by " + by, x.departs(3), 160 + by);
            x.tell(3, 0);
        }
    }

    private static void departsAtTheLastTimes() {
        LateRoutes x = new LateRoutes();
        x.line(0, 1, 9999, 10000);
        x.load(1, 1, 0, 1);
        x.late(1, 2000);
        due("departs last of all", x.departs(1), 11999);
        due("arrives last of all", x.arrival(1), 12000);
    }

    /** ".. at 10 behind the COMING of the last of these, if that is later". */
    private static void waitsOnlyIfThatIsLater() {
        LateRoutes x = new LateRoutes();
        x.line(0, 1, 0, 59);
        x.line(1, 2, 70, 100);
        x.load(1, 2, 0, 1);
        x.option(1, 1, 2, 0);
        x.waits(2, 600);
        due("departs, a minute too many", x.departs(2), 70);
        x.late(1, 1);
        due("departs, as many as it wants", x.departs(2), 70);
        x.late(1, 2);
        due("departs, a minute too few", x.departs(2), 71);
        due("arrives, a minute later", x.arrival(1), 101);
    }

    private static void waitsOnlyIfLaterThanTheDelay() {
        LateRoutes x = Scenes.oneOption(1, 2);
        x.waits(2, 600);
        x.late(2, 20);
        for (int by : new int[] {0, 19, 20}) {
            x.late(1, by);
            due("departs late anyway, the first by " + by, x.departs(2), 90);
            due("arrives late anyway, the first by " + by, x.arrival(1), 120);
        }
        x.late(1, 21);
        due("departs a minute behind the delay", x.departs(2), 91);
        due("arrives a minute behind the delay", x.arrival(1), 121);
    }

    /** Lines 1 to 6 to place 1 come at 60, 61, .. 65; line 7 from there leaves at 70. */
    private static LateRoutes sixThatComeOneByOne() {
        LateRoutes x = new LateRoutes();
        for (int i = 0; i < 6; i++) {
            x.line(0, 1, 0, 60 + i);
        }
        x.line(1, 2, 70, 100);
        x.waits(7, 600);
        return x;
    }

    /** ".. the last of these", be it the first or the last by number. */
    private static void waitsForTheLastOfThese() {
        for (int turned = 0; turned <= 1; turned++) {
            LateRoutes x = sixThatComeOneByOne();
            x.load(turned == 0 ? 2 : 5, 2, 0, 1);
            x.load(turned == 0 ? 5 : 2, 2, 0, 1);
            x.option(1, 1, 7, 0);
            due("departs behind the first alone", x.departs(7), turned == 0 ? 71 : 74);
            x.option(2, 1, 7, 0);
            due("departs behind the last", x.departs(7), 74);
            due("load 1 arrives with it", x.arrival(1), 104);
            due("load 2 arrives with it", x.arrival(2), 104);
        }
    }

    private static void waitsForTheLastOfSix() {
        for (int last = 1; last <= 6; last++) {
            LateRoutes x = sixThatComeOneByOne();
            for (int n = 1; n <= 6; n++) {
                x.load(n, 2, 0, 1);
                x.option(n, 1, 7, 0);
            }
            due("departs behind line 6", x.departs(7), 75);
            x.late(last, 100);
            due("departs behind line " + last, x.departs(7), 170 + last - 1);
            due("the last arrives", x.arrival(last), 200 + last - 1);
            due("the others too", x.arrival(last == 1 ? 2 : 1), 200 + last - 1);
        }
    }

    /** ".. if loads chose that it waits": neither kind 0 nor what is not chosen. */
    private static void waitsForNoneButThoseThatChoseIt() {
        LateRoutes x = Scenes.loads(2);
        x.waits(2, 600);
        x.option(1, 0, 2, 0);
        x.option(1, 1, 2, 0);
        x.option(2, 2, 2, 0);
        x.option(2, 1, 2, 0);
        x.late(1, 5);
        due("departs, none chose it", x.departs(2), 70);
        x.solve();
        due("load 2 chose it", x.chosen(2), 1);
        due("departs, one chose it", x.departs(2), 75);
        x.tell(1, 5);
        due("departs, none chose it any more", x.departs(2), 70);
    }

    private static void waitsNotForOptionsOfOtherLines() {
        LateRoutes x = Scenes.oneOption(1, 3);
        x.waits(2, 600);
        x.waits(3, 600);
        x.late(1, 200);
        due("line 2 has none to wait for", x.departs(2), 70);
        due("line 3 has", x.departs(3), 270);
        due("it arrives", x.arrival(1), 310);
    }

    /** ".. more than MOST behind what it leaves at .. does not count here, and MISSES it". */
    private static void waitsMostAndNoMore() {
        for (int most : new int[] {0, 1, 2, 599, 600}) {
            LateRoutes x = Scenes.oneOption(1, 2);
            x.waits(2, most);
            if (most > 0) {
                x.late(1, most - 1);
                due("departs, a minute less than most " + most, x.departs(2), 70 + most - 1);
            }
            x.late(1, most);
            due("departs, most " + most, x.departs(2), 70 + most);
            due("arrives, most " + most, x.arrival(1), 100 + most);
            due("is not left, most " + most, x.none(0), -1);
            x.late(1, most + 1);
            due("departs, a minute more than most " + most, x.departs(2), 70);
            due("misses it, most " + most, x.arrival(1), 60 + most + 1 + LEFT);
            due("is left, most " + most, x.none(0), 1);
            x.waits(2, Math.min(600, most + 1));
            due("waits, most a minute more than " + most, x.departs(2), most < 600 ? 71 + most : 70);
        }
    }

    /** ".. what it leaves at, and the delay". */
    private static void waitsMostBehindTheDelay() {
        for (int delay : new int[] {1, 20, 1399}) {
            for (int most : new int[] {0, 1, 600}) {
                LateRoutes x = Scenes.oneOption(1, 2);
                x.waits(2, most);
                x.late(2, delay);
                String what = ", late by " + delay + ", most " + most;
                x.late(1, delay + most);
                due("departs" + what, x.departs(2), 70 + delay + most);
                due("arrives" + what, x.arrival(1), 100 + delay + most);
                x.late(1, delay + most + 1);
                due("departs without it" + what, x.departs(2), 70 + delay);
                due("misses it" + what, x.arrival(1), 60 + delay + most + 1 + LEFT);
            }
        }
    }

    /** MOST is behind LEAVES and the delay, not behind what the line waits for others already. */
    private static void waitsMostIsNotBehindOthersWaiting() {
        for (int turned = 0; turned <= 1; turned++) {
            LateRoutes x = sixThatComeOneByOne();
            x.waits(7, 3);
            int early = 1 + turned;
            int late = 2 - turned;
            x.load(turned == 0 ? 4 : 5, 2, 0, 1);
            x.load(turned == 0 ? 5 : 4, 2, 0, 1);
            x.option(1, 1, 7, 0);
            x.option(2, 1, 7, 0);
            due("departs for the one that counts", x.departs(7), 73);
            due("the one arrives", x.arrival(early), 103);
            due("the other misses it by a minute", x.arrival(late), 64 + LEFT);
        }
    }

    private static void waitsForTheOthersOfOneThatMisses() {
        LateRoutes x = sixThatComeOneByOne();
        for (int n = 1; n <= 6; n++) {
            x.load(n, 2, 0, 1);
            x.option(n, 1, 7, 0);
        }
        for (int most = 0; most <= 5; most++) {
            x.waits(7, most);
            due("departs, most " + most, x.departs(7), 70 + most);
            for (int n = 1; n <= 6; n++) {
                due("load " + n + ", most " + most, x.arrival(n),
                    n <= most + 1 ? 100 + most : 60 + n - 1 + LEFT);
            }
            due("the first that misses, most " + most, x.none(0), most < 5 ? most + 2 : -1);
        }
    }

    /** "It arrives as much later than ARRIVES as it departs later than it LEAVES". */
    private static void arrivesAsMuchLater() {
        LateRoutes x = Scenes.oneOption(1, 2);
        x.load(2, 2, 0, 1);
        due("arrives", x.arrival(2), 100);
        x.late(2, 1);
        due("arrives a minute later by the delay", x.arrival(2), 101);
        x.waits(2, 600);
        x.late(1, 2);
        due("arrives a minute later by waiting too", x.arrival(2), 102);
        x.late(2, 2000);
        due("arrives by the greatest delay", x.arrival(2), 2100);
        x.late(1, 2000);
        x.waits(2, 0);
        due("arrives, both late", x.arrival(1), 2100);
        x.late(2, 1400);
        x.waits(2, 600);
        due("arrives by delay and waiting", x.arrival(1), 2100);
        due("arrives by delay and waiting, direct", x.arrival(2), 2100);
    }

    /** "A load's COMING is when its first line arrives". */
    private static void comesWhenTheFirstLineArrives() {
        LateRoutes x = Scenes.oneOption(2, 0);
        due("comes at 60", x.arrival(1), 60 + 60);
        x.late(1, 1);
        due("comes at 61", x.arrival(1), 61 + 60);
        x.late(1, 2000);
        due("comes at 2060", x.arrival(1), 2060 + 60);
    }

    private static void comesWithAFirstLineThatWaits() {
        LateRoutes x = Scenes.oneOption(1, 2);
        x.load(2, 3, 0, 1);
        x.option(2, 2, 0, 0);
        x.waits(2, 5);
        x.late(1, 5);
        due("comes 5 later, for its line waits", x.arrival(2), 105 + 60);
        x.late(1, 6);
        due("comes as it should, for its line does not", x.arrival(2), 100 + 60);
    }

    /** "lines in the order in which they leave": whatever their numbers and those of the loads. */
    private static void linesInTheOrderInWhichTheyLeave() {
        int[][] orders = {{1, 2, 3}, {1, 3, 2}, {2, 1, 3}, {2, 3, 1}, {3, 1, 2}, {3, 2, 1}};
        for (int[] lineOrder : orders) {
            for (int[] loadOrder : orders) {
                chainOfThree(lineOrder, loadOrder);
            }
        }
    }

    /**
     * Leg 1 from 0 to 1 (0 .. 60), leg 2 from 1 to 2 (70 .. 100), leg 3 from 2 to 3 (110 .. 130):
     * leg 2 waits for the load of leg 1, leg 3 for that of leg 2, a third load is direct on leg 3.
     */
    private static void chainOfThree(int[] lineOrder, int[] loadOrder) {
        long[] leaves = {0, 0, 70, 110};
        long[] arrives = {0, 60, 100, 130};
        int[] lineOf = new int[5];
        int[] loadOf = new int[4];
        LateRoutes x = new LateRoutes();
        for (int leg : lineOrder) {
            lineOf[leg] = x.line(leg - 1, leg, leaves[leg], arrives[leg]);
        }
        for (int leg : loadOrder) {
            loadOf[leg] = x.load(lineOf[leg], Math.min(leg + 1, 3), 0, 1);
        }
        x.option(loadOf[1], 1, lineOf[2], 0);
        x.option(loadOf[2], 1, lineOf[3], 0);
        x.waits(lineOf[2], 7);
        x.waits(lineOf[3], 7);
        x.late(lineOf[1], 7);
        due("leg 2 waits", x.departs(lineOf[2]), 77);
        due("leg 3 waits", x.departs(lineOf[3]), 117);
        due("load of leg 1", x.arrival(loadOf[1]), 107);
        due("load of leg 2", x.arrival(loadOf[2]), 137);
        due("load of leg 3", x.arrival(loadOf[3]), 137);
        x.late(lineOf[1], 8);
        due("leg 2 waits no more", x.departs(lineOf[2]), 70);
        due("leg 3 need not wait any more", x.departs(lineOf[3]), 110);
        due("load of leg 3 comes as it should", x.arrival(loadOf[3]), 130);
        x.waits(lineOf[2], 8);
        due("leg 2 waits a minute more", x.departs(lineOf[2]), 78);
        due("leg 3 may not", x.departs(lineOf[3]), 110);
        due("load of leg 2 misses it", x.arrival(loadOf[2]), 108 + LEFT);
    }

    /** "(at one time by number)": two lines that leave together wait each for their own loads. */
    private static void linesThatLeaveAtOneTime() {
        LateRoutes x = new LateRoutes();
        x.line(1, 2, 70, 90);
        x.line(1, 2, 70, 100);
        x.line(0, 1, 0, 65);
        x.line(3, 1, 0, 60);
        for (int n = 1; n <= 2; n++) {
            x.waits(n, 5);
            x.load(n + 2, 2, 0, 1);
        }
        x.option(1, 1, 2, 0);
        x.option(2, 1, 1, 0);
        due("line 1 does not wait", x.departs(1), 70);
        due("line 2 waits", x.departs(2), 75);
        due("by line 2", x.arrival(1), 105);
        due("by line 1", x.arrival(2), 90);
    }

    /** All lines in one chain, numbered against it, and all loads upon it: each hands on the delay. */
    private static void longestChainOfLines() {
        LateRoutes x = new LateRoutes();
        for (int n = 1; n <= 12; n++) {
            int leg = 12 - n;
            x.line(leg % 10, (leg + 1) % 10, leg * 100, leg * 100 + 90);
            x.waits(n, 600);
        }
        for (int n = 1; n <= 6; n++) {
            int leg = 12 - n - 1;
            x.load(n + 1, (leg + 2) % 10, 0, 1);
            due("chain: option", x.option(n, 1, n, 0), 0);
        }
        x.late(7, 600);
        for (int n = 1; n <= 7; n++) {
            due("chain: line " + n, x.departs(n), (12 - n) * 100 + 600);
        }
        due("chain: line 8 is before it", x.departs(8), 400);
        due("chain: the end", x.arrival(1), 1190 + 600);
        x.late(7, 601);
        due("chain: line 6 may not wait so long", x.departs(6), 600);
        due("chain: line 1 then need not", x.departs(1), 1100);
        due("chain: who is left", x.none(0), 6);
        due("chain: who else", x.none(1), -1);
    }

    /** "direct: its coming". */
    private static void arrivalOfDirectLoad() {
        LateRoutes x = new LateRoutes();
        x.line(0, 1, 0, 1);
        x.line(0, 1, 9999, 10000);
        x.load(1, 1, 0, 1);
        x.load(2, 1, 0, 1);
        due("direct, earliest", x.arrival(1), 1);
        due("direct, latest", x.arrival(2), 10000);
        x.late(2, 2000);
        due("direct, latest and late", x.arrival(2), 12000);
        due("direct is not left", x.none(0), -1);
    }

    /** "Kind 0: if the line departs 10 behind its coming or later .. otherwise it MISSES it". */
    private static void arrivalGoingOn() {
        LateRoutes x = Scenes.oneOption(0, 2);
        due("goes on, 10 behind", x.arrival(1), 100);
        x.late(2, 1);
        due("goes on, 11 behind", x.arrival(1), 101);
        x.late(2, 2000);
        due("goes on, far behind", x.arrival(1), 2100);
        x.late(1, 2000);
        due("goes on, 10 behind, all late", x.arrival(1), 2100);
        x.late(2, 1999);
        due("misses it, 9 behind, all late", x.arrival(1), 2060 + LEFT);
        x.late(1, 1);
        x.late(2, 0);
        due("misses it, 9 behind", x.arrival(1), 61 + LEFT);
        due("is left, 9 behind", x.none(0), 1);
        x.waits(2, 600);
        due("misses it, however long it may wait", x.arrival(1), 61 + LEFT);
        x.late(1, 11);
        due("misses it, departs before its coming", x.arrival(1), 71 + LEFT);
    }

    private static void arrivalGoingOnWithOneThatWaitsForAnother() {
        LateRoutes x = sixThatComeOneByOne();
        x.load(3, 2, 0, 1);
        x.option(1, 0, 7, 0);
        x.load(2, 2, 0, 1);
        x.option(2, 1, 7, 0);
        due("it misses it by a minute", x.arrival(1), 62 + LEFT);
        x.late(2, 1);
        due("it catches it, for it waits for another", x.arrival(1), 102);
        x.late(2, 30);
        due("and arrives as late as that", x.arrival(1), 131);
        x.waits(7, 30);
        due("it may not wait so long: both are left", x.none(1), 2);
        due("it misses it again", x.arrival(1), 62 + LEFT);
    }

    /** "Kind 1: when that line arrives (if it does not miss it)". */
    private static void arrivalOnLineThatWaits() {
        LateRoutes x = Scenes.oneOption(1, 3);
        due("need not wait", x.arrival(1), 200);
        x.late(1, 90);
        due("need just not wait", x.arrival(1), 200);
        x.late(1, 91);
        due("may not wait", x.arrival(1), 151 + LEFT);
        x.late(3, 1);
        due("need not wait, late itself", x.arrival(1), 201);
        x.late(3, 2000);
        due("need not wait, as late as can be", x.arrival(1), 2200);
    }

    /** "Kind 2: 60 behind its coming". */
    private static void arrivalHired() {
        LateRoutes x = Scenes.oneOption(2, 2);
        due("hired", x.arrival(1), 120);
        x.late(2, 2000);
        x.waits(2, 600);
        due("hired, whatever lines do", x.arrival(1), 120);
        x.late(1, 2000);
        due("hired, as late as can be", x.arrival(1), 2120);
        due("hired, it is not left", x.none(0), -1);
        due("hired, no line waits", x.departs(2), 2070);
    }

    /** "One that .. has no option, arrives 1440 behind its coming, and IS LEFT". */
    private static void arrivalWithoutOption() {
        LateRoutes x = Scenes.oneLoad();
        due("no option", x.arrival(1), 1500);
        due("no option: left", x.none(0), 1);
        x.late(1, 2000);
        due("no option, as late as can be", x.arrival(1), 3500);
        x.option(1, 0, 2, 0);
        due("an option, missed", x.arrival(1), 3500);
        due("an option, missed: left", x.none(0), 1);
        x.late(1, 0);
        due("an option", x.arrival(1), 100);
        due("an option: not left", x.none(0), -1);
    }

    private static void arrivalWithoutAnyLineToGoOnBy() {
        LateRoutes x = new LateRoutes();
        x.line(0, 1, 9999, 10000);
        x.load(1, 2, 20000, 1);
        x.late(1, 2000);
        due("the latest that can be left", x.arrival(1), 13440);
        due("left, though not behind DUE", x.none(0), 1);
        due("that does no harm", x.solve(), 0);
    }

    /** "One that misses its line .. arrives 1440 behind its coming": six at once, kinds 0 and 1. */
    private static void arrivalOfAllThatMiss() {
        LateRoutes x = sixThatComeOneByOne();
        for (int n = 1; n <= 6; n++) {
            x.load(n, 2, 0, 1);
            x.option(n, n % 2, 7, 0);
            x.late(n, 700);
        }
        for (int n = 1; n <= 6; n++) {
            due("misses it, load " + n, x.arrival(n), 760 + n - 1 + LEFT);
            due("left, load " + n, x.none(n - 1), n);
        }
        due("it waits for none", x.departs(7), 70);
    }
}
