/** The cases under "Terms", 2: a run tick by tick, waiting, what takes no ticks, and a jam. */
public final class RunsTest extends Checks {
    /** Of the run of begun(): each end of one thing and a tick on both sides of it, and more. */
    private static final int[] MOMENTS = {0, 1, 29, 30, 31, 39, 40, 41, 44, 45, 46, 47, 64, 65, 66,
        67, 68, 69, 70, 87, 88, 89, 127, 128, 129, 130, 147, 148, 149, 152};

    public static void main(String[] args) {
        followsThePlan();
        waitsWhileWet();
        waitsForThoseThatItTouches();
        waitsForTheLastToDry();
        waitsInThisRun();
        waitsAheadOfItsFirstUnit();
        waitsBehindAJoin();
        waitsMoreThanOnce();
        wholeUnits();
        unitsOfAllPieces();
        cutTowardsP();
        cutTowardsPInTheAir();
        cornerAtThePoint();
        beginsInTheOrderTold();
        downAndPen();
        noTicksAsTheRunStarts();
        noTicksToLift();
        noTicksToChange();
        noTicksAtACorner();
        noTicksAtTheEnd();
        drawnAsItIsEnded();
        jamTellsTheArm();
        jamWithAndWithoutAUnit();
        jamBehindOneUnit();
        jamAtEachPoint();
        jamBackAtEachPoint();
        jamOfAClosedOne();
        cutIsNeverClosed();
        cutGetsNoMorePoints();
        cutTwice();
        cutAgainBack();
        neverLeftWithOnePoint();
        jamChangesNothingElse();
        fullestRun();
        shorterBehindALonger();
        refusedWhileARunGoesOn();
        toldWhileARunGoesOn();
        finish("the terms of runs hold");
    }

    /**
     * Changing to 30, walking to 40, lowering to 45; stroke 0: a piece to 65, its corner to 68, a
     * piece to 88; waiting to 128; stroke 1 to 148; lifting to 153.
     */
    private static void ready(PenArm arm) {
        line(arm, 1, 40, 10, 0, 20, 0, 20, 10);
        line(arm, 1, 0, 20, 10, 30, 10);
        arm.over(1, 0, true);
    }

    private static void begun(PenArm arm) {
        ready(arm);
        arm.start();
    }

    private static Calls behind(int ticks) {
        return arm -> {
            begun(arm);
            arm.step(ticks);
        };
    }

    private static void followsThePlan() {
        sentence("A RUN follows PLAN as it was when it was started");
        PenArm arm = played(RunsTest::begun);
        for (int tick = 0; tick < 153; tick += 17) {
            duePlan(arm, 45 + 43 + 20 + 5, 0, 0, 1, 0);
            due("ticks", arm.planned(0, 2), 43);
            due("to begin", arm.planned(0, 3), 45);
            arm.step(17);
        }
        duePlan(arm, 0);
        PenArm jammed = played(behind(100));
        jammed.jam();
        duePlan(jammed, 5 + 20 + 5, 1, 0);
    }

    /** Stroke 0 is ended at 55, stroke 1 begun at 70 from where it crosses that (or passes by). */
    private static PenArm crossing(int wet, int itsWet, int y) {
        PenArm arm = new PenArm();
        line(arm, 0, wet, 0, 0, 10, 0);
        line(arm, 0, itsWet, 5, y, 5, y + 10);
        duePlan(arm, 95, 0, 0, 1, 0);
        arm.start();
        return arm;
    }

    private static void waitsWhileWet() {
        sentence("it waits as long as some STROKE was ended fewer ticks ago than that is WET");
        int[][] rows = {{0, 0}, {1, 0}, {14, 0}, {15, 0}, {16, 1}, {17, 2}, {999, 984}, {1000, 985}};
        for (int[] row : rows) {
            PenArm arm = crossing(row[0], 0, 0);
            due("drawn and begun", arm.step(70), 70);
            due("ended", arm.told(0, 5), 55);
            due("waited nothing yet", arm.arm(6), 0);
            due("waits", arm.step(row[1]), row[1]);
            due("waited", arm.arm(6), row[1]);
            due("no unit", arm.arm(8), 0);
            due("a unit", arm.step(2), 2);
            due("a unit", arm.arm(8), 1);
            due("waits no more", arm.arm(6), row[1]);
            due("to its end", arm.step(10000), 23);
            due("in all", arm.arm(5), 95 + row[1]);
            due("ended", arm.told(1, 5), 90 + row[1]);
            due("waited", arm.arm(6), row[1]);
        }
        due("its own ink does not count", crossing(0, 1000, 0).step(10000), 95);
    }

    private static void waitsForThoseThatItTouches() {
        sentence("some STROKE that it TOUCHES (they have a point in common)");
        due("on it", crossing(1000, 0, 0).step(10000), 95 + 985);
        due("just off it", crossing(1000, 0, 1).step(10000), 95);
        PenArm cross = new PenArm();
        line(cross, 0, 1000, 0, 1, 10, 1);
        line(cross, 0, 0, 5, 0, 5, 10);
        due("across, with no POINT on it", cross.touch(0, 1), 1);
        cross.start();
        cross.step(10000);
        due("waits all the same", cross.told(1, 5) - cross.told(0, 5), 1000 + 20);
    }

    private static void waitsForTheLastToDry() {
        sentence("as long as some STROKE: all that are WET, not the latest alone");
        int[][] wets = {{1000, 10}, {10, 1000}, {400, 300}, {0, 0}};
        for (int[] wet : wets) {
            PenArm arm = new PenArm();
            line(arm, 0, wet[0], 0, 0, 10, 0);
            line(arm, 0, wet[1], 10, 20, 0, 20);
            line(arm, 0, 0, 3, 0, 3, 20);
            line(arm, 0, 0, 100, 0, 110, 0);
            arm.over(1, 0, true);
            arm.over(2, 1, true);
            arm.over(3, 2, true);
            duePlan(arm, 55 + 50 + 13 + 40 + 107 + 20 + 5, 0, 0, 1, 0, 2, 1, 3, 0);
            arm.start();
            arm.step(10000);
            due("ended", arm.told(0, 5), 55);
            due("ended, not waiting", arm.told(1, 5), 105);
            int dry = Math.max(118, Math.max(55 + wet[0], 105 + wet[1]));
            due("ended, waiting", arm.told(2, 5), dry + 40);
            due("waited", arm.arm(6), dry - 118);
            due("ended, not waiting", arm.told(3, 5), dry + 40 + 107 + 20);
        }
    }

    private static void waitsInThisRun() {
        sentence("was ended in this RUN");
        PenArm arm = crossing(1000, 0, 0);
        arm.step(70);
        arm.jam();
        due("start", arm.start(), true);
        due("waits for none of another RUN", arm.step(10000), 5 + 20 + 5);
        due("waited", arm.arm(6), 0);
        due("ended in another RUN", arm.told(0, 5), NONE);
        due("ended", arm.told(1, 5), 25);
    }

    private static void waitsAheadOfItsFirstUnit() {
        sentence("(with the pen down, ahead of its first unit)");
        PenArm arm = crossing(15 + 30, 0, 0);
        arm.step(69);
        dueArm(arm, 5, 0, 0, 0);
        for (int waited = 0; waited < 30; waited++) {
            arm.step(1);
            dueArm(arm, 5, 0, 0, 1);
            due("waited", arm.arm(6), waited);
            due("waits for it", arm.arm(7), 1);
            due("no units", arm.arm(8), 0);
        }
        arm.step(2);
        dueArm(arm, 5, 0, 0, 1);
        due("waited", arm.arm(6), 30);
        arm.step(1);
        dueArm(arm, 5, 1, 0, 1);
    }

    private static void waitsBehindAJoin() {
        sentence("then it waits: where there is nothing to do to BEGIN too");
        for (int wet : new int[] {0, 1, 2, 1000}) {
            PenArm arm = new PenArm();
            line(arm, 0, wet, 0, 0, 10, 0);
            line(arm, 0, 0, 10, 0, 10, 10);
            due("nothing to begin", arm.planned(1, 3), 0);
            arm.start();
            arm.step(55);
            dueArm(arm, 10, 0, 0, 1);
            due("the next one", arm.arm(7), 1);
            due("to the end", arm.step(10000), wet + 20 + 5);
            due("waited", arm.arm(6), wet);
        }
    }

    private static void waitsMoreThanOnce() {
        sentence("ticks waited in it: of all its STROKES");
        PenArm arm = new PenArm();
        line(arm, 0, 30, 0, 0, 10, 0);
        line(arm, 0, 7, 10, 0, 10, 10);
        line(arm, 0, 0, 10, 10, 20, 10);
        duePlan(arm, 35 + 60 + 5, 0, 0, 1, 0, 2, 0);
        arm.start();
        int[][] rows = {{55, 0}, {56, 1}, {84, 29}, {85, 30}, {104, 30}, {105, 30}, {106, 31},
            {112, 37}, {113, 37}, {132, 37}};
        for (int[] row : rows) {
            arm.step(row[0] - arm.arm(5));
            due("waited by " + row[0], arm.arm(6), row[1]);
        }
        due("the rest", arm.step(10000), 5);
        due("waited", arm.arm(6), 37);
    }

    private static void wholeUnits() {
        sentence("the units that are whole by then");
        for (int ticks = 1; ticks <= 9; ticks++) {
            PenArm arm = drawing(0, 0, 7, 0);
            arm.price(0, ticks);
            arm.start();
            arm.step(35);
            for (int k = 0; k < 7 * ticks; k++) {
                due("units", arm.arm(8), k / ticks);
                dueArm(arm, k / ticks, 0, 0, 1);
                due("left", arm.told(0, 4), 1);
                arm.step(1);
            }
            due("at Q", arm.arm(0), 7);
            due("drawn", arm.told(0, 4), 0);
            due("units of none", arm.arm(8), 0);
        }
    }

    private static void unitsOfAllPieces() {
        sentence("units drawn of it: of all its pieces");
        PenArm arm = drawing(0, 0, 4, 0, 4, 3, 9, 3, 11, 3);
        arm.start();
        int[][] rows = {{35, 0}, {42, 3}, {43, 4}, {46, 4}, {47, 4}, {48, 5}, {52, 7}, {55, 7},
            {57, 8}, {64, 11}, {65, 12}, {66, 12}, {67, 13}, {68, 13}};
        for (int[] row : rows) {
            arm.step(row[0] - arm.arm(5));
            due("units by " + row[0], arm.arm(8), row[1]);
        }
        arm.step(1);
        due("drawn", arm.told(0, 5), 69);
        due("units of none", arm.arm(8), 0);
    }

    /** Draws from 50, 50 and looks at the arm behind each unit. */
    private static void dueUnits(int toX, int toY, int[] xs, int[] ys) {
        PenArm arm = new PenArm();
        line(arm, 0, 0, 49, 50, 50, 50);
        arm.start();
        arm.step(10000);
        line(arm, 0, 0, 50, 50, toX, toY);
        arm.start();
        arm.step(5);
        for (int i = 0; i < xs.length; i++) {
            dueArm(arm, xs[i], ys[i], 0, 1);
            arm.step(1);
            dueArm(arm, xs[i], ys[i], 0, 1);
            arm.step(1);
        }
        dueArm(arm, toX, toY, 0, 1);
    }

    private static void cutTowardsP() {
        sentence("the difference times the units that are whole by then, by n, cut towards P");
        int[] far = {50, 51, 52, 53, 54, 55, 56};
        int[] back = {50, 49, 48, 47, 46, 45, 44};
        int[] up = {50, 50, 50, 51, 51, 52, 52};
        int[] down = {50, 50, 50, 49, 49, 48, 48};
        int[] still = {50, 50, 50, 50, 50, 50, 50};
        dueUnits(57, 53, far, up);
        dueUnits(57, 47, far, down);
        dueUnits(43, 53, back, up);
        dueUnits(43, 47, back, down);
        dueUnits(53, 57, up, far);
        dueUnits(47, 57, down, far);
        dueUnits(53, 43, up, back);
        dueUnits(47, 43, down, back);
        dueUnits(57, 50, far, still);
        dueUnits(50, 43, still, back);
        dueUnits(57, 43, far, back);
    }

    private static void cutTowardsPInTheAir() {
        sentence("(On the way through the air likewise, by its price)");
        for (int air = 1; air <= 9; air++) {
            PenArm arm = drawing(7, 3, 20, 20);
            arm.price(1, air);
            arm.start();
            arm.step(30);
            int[] ys = {0, 0, 0, 1, 1, 2, 2};
            for (int k = 0; k < 7 * air; k++) {
                dueArm(arm, k / air, ys[k / air], 0, 0);
                due("no units", arm.arm(8), 0);
                arm.step(1);
            }
            dueArm(arm, 7, 3, 0, 0);
        }
        PenArm back = drawing(0, 0, 20, 20);
        line(back, 0, 0, 13, 17, 13, 30);
        back.over(1, 0, true);
        back.start();
        back.step(35 + 40 + 5);
        int[] ys = {20, 20, 20, 19, 19, 18, 18};
        for (int k = 0; k < 7; k++) {
            dueArm(back, 20 - k, ys[k], 0, 0);
            back.step(1);
        }
        dueArm(back, 13, 17, 0, 0);
    }

    private static void cornerAtThePoint() {
        sentence("CORNER ticks pass at the POINT, ahead of the piece behind it");
        for (int corner : new int[] {0, 1, 3, 99}) {
            PenArm arm = drawing(0, 0, 10, 0, 10, 10);
            arm.price(4, corner);
            arm.start();
            arm.step(35 + 19);
            dueArm(arm, 9, 0, 0, 1);
            due("units", arm.arm(8), 9);
            for (int k = 0; k <= corner + 1; k++) {
                arm.step(1);
                due("x", arm.arm(0), 10);
                due("y", arm.arm(1), 0);
                due("units", arm.arm(8), 10);
            }
            arm.step(1);
            dueArm(arm, 10, 1, 0, 1);
            due("units", arm.arm(8), 11);
            due("to the end", arm.step(10000), 18 + 5);
        }
    }

    /** Behind stroke 0 at 55 the arm goes on with another pen elsewhere. */
    private static PenArm changing() {
        PenArm arm = drawing(0, 0, 10, 0);
        line(arm, 3, 0, 14, 0, 20, 0);
        arm.start();
        arm.step(54);
        dueArm(arm, 9, 0, 0, 1);
        return arm;
    }

    private static void stepTo(PenArm arm, int tick, int x, int pen, int down) {
        int ticks = tick - arm.arm(5);
        due("step", arm.step(ticks), ticks);
        dueArm(arm, x, 0, pen, down);
    }

    private static void beginsInTheOrderTold() {
        sentence("lifting, lowering, changing: at where it is, in the order told");
        PenArm arm = changing();
        stepTo(arm, 55, 10, 0, 1);
        stepTo(arm, 59, 10, 0, 1);
        stepTo(arm, 60, 10, 0, 0);
        stepTo(arm, 89, 10, 0, 0);
        stepTo(arm, 90, 10, 3, 0);
        stepTo(arm, 91, 11, 3, 0);
        stepTo(arm, 93, 13, 3, 0);
        stepTo(arm, 94, 14, 3, 0);
        stepTo(arm, 98, 14, 3, 0);
        stepTo(arm, 99, 14, 3, 1);
        stepTo(arm, 100, 14, 3, 1);
        stepTo(arm, 101, 15, 3, 1);
        stepTo(arm, 111, 20, 3, 1);
        stepTo(arm, 115, 20, 3, 1);
        stepTo(arm, 116, 20, 3, 0);
        due("ended", arm.arm(4), 0);
    }

    private static void downAndPen() {
        sentence("it is down from the end of lowering to that of lifting, "
                + "has the other pen from the end of changing on");
        PenArm arm = played(RunsTest::begun);
        for (int tick = 0; tick < 153; tick++) {
            due("pen at " + tick, arm.arm(2), tick < 30 ? NONE : 1);
            due("down at " + tick, arm.arm(3), tick < 45 ? 0 : 1);
            arm.step(1);
        }
        due("pen", arm.arm(2), 1);
        due("down", arm.arm(3), 0);
    }

    private static void noTicksAsTheRunStarts() {
        sentence("What takes no ticks is done at once (as the RUN starts)");
        PenArm changed = drawing(9, 0, 20, 0);
        changed.price(3, 0);
        changed.start();
        dueArm(changed, 0, 0, 0, 0);
        PenArm there = drawing(0, 0, 20, 0);
        there.price(3, 0);
        there.start();
        dueArm(there, 0, 0, 0, 0);
        PenArm lowered = drawing(0, 0, 20, 0);
        lowered.price(3, 0);
        lowered.price(2, 0);
        lowered.start();
        dueArm(lowered, 0, 0, 0, 1);
        due("it draws", lowered.arm(7), 0);
        due("no ticks", lowered.arm(5), 0);
        lowered.jam();
        dueArm(lowered, 0, 0, 0, 0);
        PenArm dear = drawing(0, 0, 20, 0);
        dear.price(2, 0);
        dear.start();
        dueArm(dear, 0, 0, NONE, 0);
        dear.step(29);
        dueArm(dear, 0, 0, NONE, 0);
        dear.step(1);
        dueArm(dear, 0, 0, 0, 1);
    }

    private static void noTicksToLift() {
        sentence("What takes no ticks is done at once as what is ahead of it ends: LIFT");
        PenArm arm = drawing(0, 0, 10, 0);
        line(arm, 3, 0, 14, 0, 20, 0);
        arm.price(2, 0);
        arm.start();
        stepTo(arm, 29, 0, NONE, 0);
        stepTo(arm, 30, 0, 0, 1);
        stepTo(arm, 49, 9, 0, 1);
        stepTo(arm, 50, 10, 0, 0);
        stepTo(arm, 79, 10, 0, 0);
        stepTo(arm, 80, 10, 3, 0);
        stepTo(arm, 83, 13, 3, 0);
        stepTo(arm, 84, 14, 3, 1);
    }

    private static void noTicksToChange() {
        sentence("What takes no ticks is done at once as what is ahead of it ends: CHANGED, WAY");
        PenArm arm = drawing(0, 0, 10, 0);
        line(arm, 3, 0, 10, 0, 20, 0);
        arm.price(3, 0);
        arm.start();
        stepTo(arm, 0, 0, 0, 0);
        stepTo(arm, 4, 0, 0, 0);
        stepTo(arm, 5, 0, 0, 1);
        stepTo(arm, 25, 10, 0, 1);
        stepTo(arm, 29, 10, 0, 1);
        stepTo(arm, 30, 10, 3, 0);
        stepTo(arm, 34, 10, 3, 0);
        stepTo(arm, 35, 10, 3, 1);
        PenArm all = drawing(0, 0, 10, 0);
        line(all, 3, 0, 10, 0, 20, 0);
        all.price(2, 0);
        all.price(3, 0);
        all.start();
        stepTo(all, 19, 9, 0, 1);
        stepTo(all, 20, 10, 3, 1);
        due("the next one", all.arm(7), 1);
        due("no units of it", all.arm(8), 0);
    }

    private static void noTicksAtACorner() {
        sentence("What takes no ticks is done at once as what is ahead of it ends: CORNER");
        PenArm arm = drawing(0, 0, 10, 0, 0, 0);
        arm.price(4, 0);
        arm.start();
        stepTo(arm, 35 + 20, 10, 0, 1);
        stepTo(arm, 35 + 21, 10, 0, 1);
        stepTo(arm, 35 + 22, 9, 0, 1);
        due("units", arm.arm(8), 11);
    }

    private static void noTicksAtTheEnd() {
        sentence("What takes no ticks is done at once as what is ahead of it ends: the last LIFT");
        PenArm arm = drawing(0, 0, 10, 0);
        arm.price(2, 0);
        arm.start();
        due("step", arm.step(49), 49);
        due("goes on", arm.arm(4), 1);
        due("step", arm.step(1), 1);
        due("ended", arm.arm(4), 0);
        dueArm(arm, 10, 0, 0, 0);
        due("ticks", arm.arm(5), 50);
        due("drawn at", arm.told(0, 5), 50);
        due("no RUN", arm.step(0), NONE);
        PenArm dear = drawing(0, 0, 10, 0);
        dear.price(2, 1);
        dear.start();
        due("step", dear.step(51), 51);
        due("goes on", dear.arm(4), 1);
        dueArm(dear, 10, 0, 0, 1);
        due("step", dear.step(2), 1);
        due("ended", dear.arm(4), 0);
    }

    private static void drawnAsItIsEnded() {
        sentence("A STROKE is drawn (not LEFT) as it is ended");
        for (int tick = 0; tick < 153; tick++) {
            PenArm arm = played(behind(tick));
            due("0 left at " + tick, arm.told(0, 4), tick < 88 ? 1 : 0);
            due("0 ended at", arm.told(0, 5), tick < 88 ? NONE : 88);
            due("1 left at " + tick, arm.told(1, 4), tick < 148 ? 1 : 0);
            due("1 ended at", arm.told(1, 5), tick < 148 ? NONE : 148);
            due("left", arm.count(1), tick < 88 ? 2 : tick < 148 ? 1 : 0);
            due("underway at " + tick, arm.arm(7), tick < 88 ? 0 : tick < 148 ? 1 : NONE);
        }
    }

    private static void jamTellsTheArm() {
        sentence("JAM: the RUN ends: the arm is up, where it is, with its pen");
        for (int tick = 0; tick < 153; tick++) {
            PenArm arm = played(behind(tick));
            int x = arm.arm(0);
            int y = arm.arm(1);
            int pen = arm.arm(2);
            int waited = arm.arm(6);
            due("jam", arm.jam(), true);
            dueArm(arm, x, y, pen, 0);
            due("no RUN", arm.arm(4), 0);
            due("ticks", arm.arm(5), tick);
            due("waited", arm.arm(6), waited);
            due("waited at " + tick, waited, tick < 88 ? 0 : Math.min(tick - 88, 40));
            due("none underway", arm.arm(7), NONE);
            due("no units", arm.arm(8), 0);
            due("runs", arm.count(3), 1);
            due("jams", arm.count(4), 1);
            due("again", arm.jam(), false);
        }
    }

    private static void jamWithAndWithoutAUnit() {
        sentence("JAM with and without a unit drawn: CUT, or as it was");
        for (int tick = 0; tick < 153; tick++) {
            PenArm arm = played(behind(tick));
            arm.jam();
            if (tick < 65) {
                duePoints(arm, 0, 10, 0, 20, 0, 20, 10);
            } else {
                duePoints(arm, 0, tick < 88 ? new int[] {20, 0, 20, 10}
                        : new int[] {10, 0, 20, 0, 20, 10});
            }
            due("0 left at " + tick, arm.told(0, 4), tick < 88 ? 1 : 0);
            due("1 left at " + tick, arm.told(1, 4), tick < 148 ? 1 : 0);
            duePoints(arm, 1, 20, 10, 30, 10);
            due("1 takes points at " + tick, arm.point(1, 0, 0), tick < 130 ? 3 : NONE);
        }
    }

    /** A latest stroke that is drawn back: CUT shows in the order of its points. */
    private static void jamBehindOneUnit() {
        sentence("if one unit or more of it was drawn");
        for (int ticks = 1; ticks <= 9; ticks++) {
            Calls scene = arm -> line(arm, 0, 0, 50, 0, 20, 0, 0, 0);
            PenArm without = played(scene);
            without.price(0, ticks);
            without.start();
            without.step(35 + ticks - 1);
            due("no unit", without.arm(8), 0);
            without.jam();
            duePoints(without, 0, 50, 0, 20, 0, 0, 0);
            due("as it was", without.point(0, 9, 9), 4);
            PenArm with = played(scene);
            with.price(0, ticks);
            with.start();
            with.step(35 + ticks);
            due("one unit", with.arm(8), 1);
            with.jam();
            duePoints(with, 0, 0, 0, 20, 0, 50, 0);
            due("it is cut", with.point(0, 9, 9), NONE);
        }
    }

    private static void jamAtEachPoint() {
        sentence("keeps the POINTS from the one last passed (or reached) on, as it was drawn");
        int[][] rows = {{19, 0}, {20, 1}, {22, 1}, {23, 1}, {42, 1}, {43, 2}, {46, 2}, {65, 2},
            {66, 3}, {69, 3}, {70, 3}, {88, 3}};
        int[] places = {0, 0, 10, 0, 10, 10, 20, 10, 20, 0};
        for (int[] row : rows) {
            PenArm arm = drawing(places);
            arm.start();
            arm.step(35 + row[0]);
            arm.jam();
            duePoints(arm, 0, java.util.Arrays.copyOfRange(places, 2 * row[1], places.length));
            due("left", arm.told(0, 4), 1);
        }
    }

    private static void jamBackAtEachPoint() {
        sentence("keeps the POINTS, as it was drawn: back");
        int[][] rows = {{2, 0}, {19, 0}, {20, 1}, {42, 1}, {43, 2}, {65, 2}, {66, 3}, {88, 3}};
        int[] drawn = {0, 0, 10, 0, 10, 10, 20, 10, 20, 0};
        for (int[] row : rows) {
            PenArm arm = drawing(20, 0, 20, 10, 10, 10, 10, 0, 0, 0);
            due("back", arm.planned(0, 1), 1);
            arm.start();
            arm.step(35 + row[0]);
            arm.jam();
            duePoints(arm, 0, java.util.Arrays.copyOfRange(drawn, 2 * row[1], drawn.length));
        }
    }

    private static void jamOfAClosedOne() {
        sentence("keeps the POINTS, as it was drawn: round");
        int[][] rows = {{2, 0}, {19, 0}, {20, 1}, {42, 1}, {43, 2}, {65, 2}, {66, 3}, {88, 3}};
        int[] drawn = {10, 10, 10, 20, 20, 20, 20, 10, 10, 10};
        for (int[] row : rows) {
            PenArm arm = drawing(20, 20, 20, 10, 10, 10, 10, 20, 20, 20);
            due("from its nearest", arm.planned(0, 1), 2);
            arm.start();
            arm.step(45 + row[0]);
            arm.jam();
            duePoints(arm, 0, java.util.Arrays.copyOfRange(drawn, 2 * row[1], drawn.length));
            due("closed no more", arm.told(0, 3), 0);
        }
        PenArm whole = drawing(20, 20, 20, 10, 10, 10, 10, 20, 20, 20);
        whole.start();
        whole.step(45 + 1);
        whole.jam();
        due("as it was: closed", whole.told(0, 3), 1);
        duePoints(whole, 0, 20, 20, 20, 10, 10, 10, 10, 20, 20, 20);
    }

    private static void cutIsNeverClosed() {
        sentence("it is CUT (never CLOSED)");
        PenArm arm = drawing(10, 10, 10, 20, 20, 20, 20, 10, 10, 10);
        arm.start();
        arm.step(45 + 2);
        arm.jam();
        due("its last point is its first one", arm.told(0, 2), 5);
        due("not closed", arm.told(0, 3), 0);
        due("from its first", arm.ticks(0, 0), 89);
        due("from its last", arm.ticks(0, 1), 89);
        due("from no other", arm.ticks(0, 2), NONE);
        PenArm tail = drawing(0, 0, 9, 0, 9, 9, 20, 9, 20, 20, 9, 20, 9, 9);
        due("open", tail.told(0, 3), 0);
        tail.start();
        tail.step(35 + 18 + 3 + 18);
        tail.jam();
        duePoints(tail, 0, 9, 9, 20, 9, 20, 20, 9, 20, 9, 9);
        due("what is left of an open one is not closed", tail.told(0, 3), 0);
        due("from no other", tail.ticks(0, 2), NONE);
    }

    private static void cutGetsNoMorePoints() {
        sentence("it is CUT (and gets no more POINTS)");
        Calls scene = arm -> {
            line(arm, 0, 0, 10, 10, 10, 20, 20, 20);
            arm.start();
            arm.step(45 + 2);
            arm.jam();
        };
        refused("point", scene, arm -> arm.point(0, 30, 30));
        due("left", played(scene).told(0, 4), 1);
        PenArm arm = played(scene);
        due("the next one does", arm.stroke(0, 0), 1);
        due("the next one does", arm.point(1, 30, 30), 1);
    }

    private static void cutTwice() {
        sentence("CUT again, and drawn in the end");
        PenArm arm = drawing(0, 0, 10, 0, 10, 10, 20, 10);
        arm.start();
        arm.step(35 + 24);
        arm.jam();
        duePoints(arm, 0, 10, 0, 10, 10, 20, 10);
        due("start", arm.start(), true);
        due("no ticks yet", arm.arm(5), 0);
        arm.step(5 + 1);
        due("no unit of it", arm.arm(8), 0);
        arm.jam();
        duePoints(arm, 0, 10, 0, 10, 10, 20, 10);
        due("still cut", arm.point(0, 0, 0), NONE);
        arm.start();
        arm.step(5 + 20 + 3 + 2);
        arm.jam();
        duePoints(arm, 0, 10, 10, 20, 10);
        due("left", arm.told(0, 4), 1);
        arm.start();
        due("the rest", arm.step(10000), 1 + 5 + 20 + 5);
        due("drawn", arm.told(0, 4), 0);
        duePoints(arm, 0, 10, 10, 20, 10);
        due("runs", arm.count(3), 4);
        due("jams", arm.count(4), 3);
    }

    private static void cutAgainBack() {
        sentence("CUT again, as it was drawn then: back, and forth once more");
        PenArm arm = drawing(0, 0, 30, 0, 30, 20, 12, 1);
        arm.start();
        arm.step(35 + 24);
        arm.jam();
        duePoints(arm, 0, 0, 0, 30, 0, 30, 20, 12, 1);
        due("nearer its last", arm.planned(0, 1), 1);
        arm.start();
        arm.step(1 + 5 + 2);
        arm.jam();
        duePoints(arm, 0, 12, 1, 30, 20, 30, 0, 0, 0);
        due("nearer its first", arm.planned(0, 1), 0);
        arm.start();
        arm.step(1 + 5 + 38 + 3 + 2);
        dueArm(arm, 30, 19, 0, 1);
        arm.jam();
        duePoints(arm, 0, 30, 20, 30, 0, 0, 0);
    }

    /** At its last POINT a STROKE is ended, so a JAM never leaves one POINT alone. */
    private static void neverLeftWithOnePoint() {
        sentence("if none is left but one it is drawn");
        for (int tick = 0; tick < 153; tick++) {
            PenArm arm = played(behind(tick));
            arm.jam();
            for (int s = 0; s < 2; s++) {
                due("left ones can be drawn", arm.told(s, 4) == 0 || arm.told(s, 2) >= 2, true);
            }
            due("a plan, or none left", arm.plan() > 0, arm.count(1) > 0);
        }
    }

    private static void jamChangesNothingElse() {
        sentence("JAM leaves pens, WET, pairs OVER, prices and what is drawn");
        for (int tick : MOMENTS) {
            PenArm arm = played(behind(tick));
            int ended = arm.told(0, 5);
            arm.jam();
            due("pen", arm.told(0, 0), 1);
            due("wet", arm.told(0, 1), 40);
            due("ended", arm.told(0, 5), ended);
            due("strokes", arm.count(0), 2);
            due("pairs", arm.count(2), 1);
            due("it is so", arm.over(1, 0, true), false);
            due("prices", arm.ticks(1, 0), 20);
        }
    }

    /** Each of eight is begun with all that there is to do, waits, and has all corners. */
    private static void fullest(PenArm arm) {
        for (int s = 0; s < 8; s++) {
            arm.stroke(s % 2, 1000);
            for (int i = 0; i < 12; i++) {
                arm.point(s, 10 * i, i % 2 * 10);
            }
        }
        for (int s = 1; s < 8; s++) {
            arm.over(s, s - 1, true);
        }
        arm.start();
    }

    private static void fullestRun() {
        sentence("a RUN of 8 STROKES of 12 POINTS, changing and waiting for each");
        PenArm arm = played(RunsTest::fullest);
        duePlan(arm, 35 + 8 * 250 + 7 * 40 + 5,
                0, 0, 1, 1, 2, 0, 3, 1, 4, 0, 5, 1, 6, 0, 7, 1);
        due("to its end", arm.step(10000), 2320 + 7 * 960);
        due("waited", arm.arm(6), 7 * 960);
        for (int s = 0; s < 8; s++) {
            due("ended", arm.told(s, 5), 285 + 1250 * s);
        }
        dueArm(arm, 0, 0, 1, 0);
        PenArm jammed = played(RunsTest::fullest);
        jammed.step(285 + 1250 * 7 - 1);
        jammed.jam();
        duePoints(jammed, 7, 10, 10, 0, 0);
        due("one left", jammed.count(1), 1);
    }

    private static void shorterBehindALonger() {
        sentence("no RUN: no units, none underway, the last RUN's ticks waited");
        for (int many = 2; many <= 12; many++) {
            PenArm arm = played(RunsTest::fullest);
            arm.step(10000);
            arm.clear();
            arm.stroke(0, 0);
            for (int i = 0; i < many; i++) {
                arm.point(0, 10 * i, i % 2 * 10);
            }
            arm.start();
            arm.step(10000);
            due("no units", arm.arm(8), 0);
            due("not waited", arm.arm(6), 0);
            due("none underway", arm.arm(7), NONE);
            due("ticks", arm.arm(5), 35 + 20 * (many - 1) + 3 * (many - 2) + 5);
        }
    }

    private static void refusedWhileARunGoesOn() {
        sentence("While a RUN goes on nothing but what tells, step() and jam() is done");
        for (int tick : MOMENTS) {
            Calls scene = behind(tick);
            refused("stroke at " + tick, scene, arm -> arm.stroke(0, 0));
            refused("point at " + tick, scene, arm -> arm.point(1, 40, 40));
            denied("over at " + tick, scene, arm -> arm.over(0, 1, true));
            denied("no longer over at " + tick, scene, arm -> arm.over(1, 0, false));
            for (int which = 0; which < 5; which++) {
                int it = which;
                denied("price at " + tick, scene, arm -> arm.price(it, 9));
            }
            denied("clear at " + tick, scene, arm -> arm.clear());
            denied("start at " + tick, scene, arm -> arm.start());
            refused("step -1 at " + tick, scene, arm -> arm.step(-1));
            refused("step 10001 at " + tick, scene, arm -> arm.step(10001));
            unchanged("step 0 at " + tick, scene, arm -> due("step 0", arm.step(0), 0));
        }
    }

    private static void toldWhileARunGoesOn() {
        sentence("While a RUN goes on what tells is done");
        for (int tick : MOMENTS) {
            PenArm arm = played(behind(tick));
            due("plan", arm.plan(), 113);
            due("planned", arm.planned(1, 2), 20);
            due("ticks", arm.ticks(0, 1), 43);
            due("touch", arm.touch(0, 1), 1);
            due("arm", arm.arm(4), 1);
            due("told", arm.told(0, 1), 40);
            due("at", arm.at(1, 1, false), 30);
            due("count", arm.count(3), 1);
            Calls scene = behind(tick);
            unchanged("telling", scene, RunsTest::askAll);
        }
    }

    private static void askAll(PenArm arm) {
        arm.plan();
        arm.planned(0, 0);
        arm.ticks(0, 0);
        arm.touch(0, 1);
        arm.arm(0);
        arm.told(0, 0);
        arm.at(0, 0, true);
        arm.count(0);
    }
}
