/** For each promise of the document: ordinary inputs, the edges that it names, and wrong inputs. */
public final class PromisesTest extends Checks {
    public static void main(String[] args) {
        newObject();
        strokes();
        points();
        overs();
        prices();
        clears();
        plans();
        plansInTies();
        plannedRows();
        strokeTicks();
        closedTicks();
        touching();
        starting();
        stepping();
        zeroTicks();
        waiting();
        slantedWay();
        jamming();
        jammingBackward();
        jammingClosed();
        jammingWithoutUnit();
        jammingInTheAir();
        jammingAtTheEnd();
        armTells();
        toldTells();
        atTells();
        counts();
        refusedInARun();
        finish("all promises hold");
    }

    private static void newObject() {
        sentence("promise 1");
        PenArm arm = new PenArm();
        dueArm(arm, 0, 0, NONE, 0);
        due("arm(4)", arm.arm(4), 0);
        due("arm(5)", arm.arm(5), 0);
        due("arm(6)", arm.arm(6), 0);
        due("arm(7)", arm.arm(7), NONE);
        due("arm(8)", arm.arm(8), 0);
        for (int what = 0; what <= 4; what++) {
            due("count", arm.count(what), 0);
        }
        due("plan", arm.plan(), 0);
        due("planned", arm.planned(0, 0), NONE);
        due("told", arm.told(0, 0), NONE);
        due("at", hasNone(arm, 0, 0), true);
        due("NONE", NONE, -1);
    }

    private static void strokes() {
        sentence("promise 2");
        PenArm arm = new PenArm();
        due("pen -1", arm.stroke(-1, 0), NONE);
        due("pen 4", arm.stroke(4, 0), NONE);
        due("wet -1", arm.stroke(0, -1), NONE);
        due("wet 1001", arm.stroke(0, 1001), NONE);
        due("huge", arm.stroke(Integer.MAX_VALUE, Integer.MIN_VALUE), NONE);
        due("count", arm.count(0), 0);
        for (int i = 0; i < 8; i++) {
            due("stroke", arm.stroke(i % 4, i == 7 ? 1000 : 0), i);
            due("no points yet", arm.told(i, 2), 0);
        }
        due("a ninth", arm.stroke(0, 0), NONE);
        due("count", arm.count(0), 8);
    }

    private static void points() {
        sentence("promise 3");
        PenArm arm = new PenArm();
        due("no strokes", arm.point(0, 1, 1), NONE);
        arm.stroke(0, 0);
        due("no such", arm.point(1, 1, 1), NONE);
        due("no such", arm.point(-1, 1, 1), NONE);
        due("x -1", arm.point(0, -1, 0), NONE);
        due("x 501", arm.point(0, 501, 0), NONE);
        due("y -1", arm.point(0, 0, -1), NONE);
        due("y 501", arm.point(0, 0, 501), NONE);
        due("first", arm.point(0, 500, 500), 1);
        due("alike", arm.point(0, 500, 500), NONE);
        due("second", arm.point(0, 0, 500), 2);
        due("third", arm.point(0, 0, 0), 3);
        due("back again", arm.point(0, 0, 500), 4);
        for (int i = 5; i <= 12; i++) {
            due("more", arm.point(0, i, i), i);
        }
        due("a thirteenth", arm.point(0, 99, 99), NONE);
        duePoints(arm, 0, 500, 500, 0, 500, 0, 0, 0, 500, 5, 5, 6, 6, 7, 7, 8, 8, 9, 9, 10, 10,
                11, 11, 12, 12);
        arm.stroke(0, 0);
        due("the latest", arm.point(1, 3, 3), 1);
        due("not the latest", arm.point(0, 3, 3), NONE);
        arm.stroke(0, 0);
        due("not the latest, with room", arm.point(1, 4, 4), NONE);
        due("as it was", arm.told(1, 2), 1);

        PenArm drawn = new PenArm();
        line(drawn, 0, 0, 0, 0, 5, 0);
        drawn.start();
        drawn.step(10000);
        due("not left", drawn.point(0, 9, 9), NONE);
    }

    private static void overs() {
        sentence("promise 4");
        PenArm arm = new PenArm();
        due("no such", arm.over(0, 1, true), false);
        line(arm, 0, 0, 0, 0, 1, 0);
        due("no such", arm.over(0, 1, true), false);
        due("no such", arm.over(-1, 0, true), false);
        due("alike", arm.over(0, 0, true), false);
        due("alike", arm.over(0, 0, false), false);
        line(arm, 0, 0, 50, 0, 51, 0);
        due("is not so", arm.over(0, 1, false), false);
        due("over", arm.over(0, 1, true), true);
        due("it is so", arm.over(0, 1, true), false);
        due("one pair", arm.count(2), 1);
        due("first is the lower one", arm.planned(0, 0), 1);
        due("no longer", arm.over(0, 1, false), true);
        due("no longer", arm.over(0, 1, false), false);
        due("no pair", arm.count(2), 0);
        due("first is the nearer one", arm.planned(0, 0), 0);
        due("of drawn ones too", arm.start() && arm.step(10000) > 0 && arm.over(1, 0, true), true);
    }

    private static void prices() {
        sentence("promise 5");
        int[] low = {1, 1, 0, 0, 0};
        int[] high = {9, 9, 99, 999, 99};
        PenArm arm = new PenArm();
        for (int which = 0; which < 5; which++) {
            due("below", arm.price(which, low[which] - 1), false);
            due("above", arm.price(which, high[which] + 1), false);
        }
        due("which -1", arm.price(-1, 5), false);
        due("which 5", arm.price(5, 5), false);
        line(arm, 1, 0, 10, 0, 20, 0, 20, 4);
        due("at first", arm.plan(), 30 + 10 + 5 + 28 + 3 + 5);
        for (int which = 0; which < 5; which++) {
            due("highest", arm.price(which, high[which]), true);
            due("again", arm.price(which, high[which]), true);
        }
        due("dear", arm.plan(), 999 + 90 + 99 + 14 * 9 + 99 + 99);
        for (int which = 0; which < 5; which++) {
            due("lowest", arm.price(which, low[which]), true);
        }
        due("cheap", arm.plan(), 10 + 14);
        due("of begin", arm.planned(0, 3), 10);
    }

    private static void clears() {
        sentence("promise 6");
        PenArm arm = new PenArm();
        line(arm, 2, 7, 0, 0, 5, 0);
        line(arm, 2, 7, 5, 0, 5, 5);
        arm.over(1, 0, true);
        arm.price(2, 0);
        arm.start();
        due("in a run", arm.clear(), false);
        arm.step(33);
        arm.jam();
        dueArm(arm, 1, 0, 2, 0);
        due("clear", arm.clear(), true);
        dueArm(arm, 0, 0, NONE, 0);
        due("strokes", arm.count(0), 0);
        due("left", arm.count(1), 0);
        due("pairs", arm.count(2), 0);
        due("runs stay", arm.count(3), 1);
        due("jams stay", arm.count(4), 1);
        due("plan", arm.plan(), 0);
        due("told", arm.told(0, 0), NONE);
        due("new one", line(arm, 1, 0, 3, 0, 4, 0), 0);
        due("fresh: it takes points", arm.point(0, 5, 0), 3);
        due("fresh: left", arm.told(0, 4), 1);
        due("fresh: end", arm.told(0, 5), NONE);
        due("prices stay", arm.plan(), 30 + 3 + 4);
        line(arm, 1, 0, 4, 0, 5, 0);
        due("fresh: not over", arm.over(1, 0, false), false);
        due("fresh: no pairs", arm.count(2), 0);
        due("clear again", arm.clear(), true);
    }

    private static void plans() {
        sentence("promise 7");
        PenArm arm = new PenArm();
        due("none left", arm.plan(), 0);
        arm.stroke(0, 0);
        due("no point", arm.plan(), NONE);
        arm.point(0, 3, 4);
        due("one point", arm.plan(), NONE);
        due("none to begin", arm.start(), false);
        arm.point(0, 3, 10);
        due("the way is the greater", arm.plan(), 30 + 4 + 5 + 12 + 5);
        line(arm, 1, 0, 3, 10, 9, 10);
        due("another pen is changed, where it is",
                arm.plan(), 30 + 4 + 5 + 12 + 5 + 30 + 0 + 5 + 12 + 5);
        line(arm, 0, 0, 3, 10, 0, 10);
        due("pens once each", arm.plan(), 30 + 4 + 5 + 12 + 6 + 5 + 30 + 3 + 5 + 12 + 5);
        arm.over(0, 1, true);
        arm.over(1, 2, true);
        due("as OVER has it",
                arm.plan(), (30 + 10 + 5 + 6) + (5 + 30 + 5 + 12) + (5 + 30 + 6 + 5 + 12) + 5);
        arm.over(2, 0, true);
        due("round", arm.plan(), NONE);
        due("round", arm.planned(0, 0), NONE);
        due("round", arm.start(), false);
        arm.over(2, 0, false);
        arm.start();
        arm.step(60);
        due("of one that goes on", arm.plan(), 166);
        arm.step(10000);
        due("none left", arm.plan(), 0);
        arm.over(2, 0, true);
        due("none left, though over goes round", arm.plan(), 0);
        line(arm, 0, 0, 3, 4, 5, 4);
        arm.over(3, 0, true);
        arm.over(0, 3, true);
        due("only those left count", arm.plan(), 6 + 5 + 4 + 5);
    }

    private static void plansInTies() {
        sentence("promise 7, ties");
        PenArm arm = new PenArm();
        line(arm, 0, 0, 10, 0, 10, 10);
        due("lower beginning", arm.planned(0, 1), 0);
        line(arm, 0, 0, 10, 10, 10, 0);
        due("there and back", arm.plan(), 30 + 10 + 5 + 20 + 20 + 5);
        due("lower stroke", arm.planned(0, 0), 0);
        due("lower beginning", arm.planned(0, 1), 0);
        due("follows", arm.planned(1, 1), 0);
        due("joined", arm.planned(1, 3), 0);
        arm.clear();
        line(arm, 0, 0, 4, 4, 4, 8, 8, 8, 8, 4, 4, 4);
        line(arm, 0, 0, 4, 4, 8, 8);
        due("closed at its first", arm.plan(), 30 + 4 + 5 + 32 + 9 + 8 + 5);
        due("0 first", arm.planned(0, 0), 0);
        due("from 0", arm.planned(0, 1), 0);
    }

    private static void plannedRows() {
        sentence("promise 8");
        PenArm arm = new PenArm();
        line(arm, 0, 0, 40, 0, 30, 0);
        line(arm, 1, 0, 0, 0, 0, 10);
        int[][] rows = {{1, 0, 20, 35}, {0, 1, 20, 5 + 30 + 30 + 5}};
        due("plan", arm.plan(), 55 + 90 + 5);
        for (int i = 0; i < 2; i++) {
            for (int what = 0; what < 4; what++) {
                due("planned(" + i + ", " + what + ")", arm.planned(i, what), rows[i][what]);
            }
            due("what -1", arm.planned(i, -1), NONE);
            due("what 4", arm.planned(i, 4), NONE);
        }
        due("i 2", arm.planned(2, 0), NONE);
        due("i -1", arm.planned(-1, 0), NONE);
        due("i 8", arm.planned(8, 0), NONE);
        arm.start();
        arm.step(100);
        due("what the run follows", arm.planned(0, 0), 1);
        due("what the run follows", arm.planned(1, 3), 70);
        arm.jam();
        due("from where it is now", arm.planned(0, 0), 0);
        due("one is left", arm.planned(1, 0), NONE);
    }

    private static void strokeTicks() {
        sentence("promise 9");
        PenArm arm = new PenArm();
        due("no such", arm.ticks(0, 0), NONE);
        arm.stroke(0, 0);
        due("no points", arm.ticks(0, 0), NONE);
        arm.point(0, 10, 10);
        due("one point", arm.ticks(0, 0), NONE);
        arm.point(0, 20, 15);
        due("slanted", arm.ticks(0, 0), 20);
        arm.point(0, 40, 25);
        due("one line onward has no corner", arm.ticks(0, 0), 60);
        arm.point(0, 20, 15);
        due("opposite is a corner", arm.ticks(0, 0), 100 + 3);
        arm.point(0, 20, 16);
        due("a turn is a corner", arm.ticks(0, 0), 102 + 6);
        due("back", arm.ticks(0, 1), 102 + 6);
        due("no such beginning", arm.ticks(0, 2), NONE);
        due("no such beginning", arm.ticks(0, -1), NONE);
        due("no such stroke", arm.ticks(-1, 0), NONE);
        due("no such stroke", arm.ticks(1, 0), NONE);
        arm.price(0, 9);
        arm.price(4, 99);
        due("dear", arm.ticks(0, 1), 51 * 9 + 2 * 99);
    }

    private static void closedTicks() {
        sentence("promise 9, closed");
        PenArm arm = new PenArm();
        line(arm, 0, 0, 10, 0, 20, 0, 20, 20, 0, 20, 0, 0);
        due("not closed yet", arm.told(0, 3), 0);
        due("forward or back", arm.ticks(0, 2), NONE);
        arm.point(0, 10, 0);
        due("closed", arm.told(0, 3), 1);
        due("a straight one saves no corner", arm.ticks(0, 0), 160 + 12);
        for (int b = 1; b <= 4; b++) {
            due("a corner is saved at the beginning", arm.ticks(0, b), 160 + 9);
        }
        due("no such", arm.ticks(0, 5), NONE);
        due("begun at the nearest corner", arm.planned(0, 1), 4);
        arm.point(0, 9, 0);
        due("closed no more", arm.told(0, 3), 0);
        line(arm, 0, 0, 1, 1, 2, 2, 1, 1);
        due("three points are not closed", arm.told(1, 3), 0);
        line(arm, 0, 0, 1, 1, 2, 2, 2, 1, 1, 1);
        due("four are", arm.told(2, 3), 1);
        due("so there are three beginnings", arm.ticks(2, 2), 6 + 6);
        due("so there are three beginnings", arm.ticks(2, 3), NONE);
    }

    private static void touching() {
        sentence("promise 10");
        PenArm arm = new PenArm();
        due("no such", arm.touch(0, 0), NONE);
        arm.stroke(0, 0);
        due("no points", arm.touch(0, 0), NONE);
        arm.point(0, 1, 1);
        due("one point", arm.touch(0, 0), NONE);
        arm.point(0, 5, 5);
        due("itself", arm.touch(0, 0), 1);
        due("no such", arm.touch(0, 1), NONE);
        due("no such", arm.touch(-1, 0), NONE);
        arm.stroke(0, 0);
        due("too short", arm.touch(0, 1), NONE);
        due("too short", arm.touch(1, 0), NONE);
        due("crossing", touchOf(new int[] {0, 0, 9, 9}, new int[] {0, 9, 9, 0}), 1);
        due("crossing off the grid", touchOf(new int[] {0, 0, 3, 1}, new int[] {1, 1, 2, 0}), 1);
        due("end on end", touchOf(new int[] {0, 0, 9, 9}, new int[] {9, 9, 9, 0}), 1);
        due("end on the middle", touchOf(new int[] {0, 0, 9, 9}, new int[] {5, 5, 9, 0}), 1);
        due("end just off", touchOf(new int[] {0, 0, 500, 499}, new int[] {499, 499, 0, 500}), 0);
        due("in one line, apart", touchOf(new int[] {0, 0, 4, 4}, new int[] {5, 5, 9, 9}), 0);
        due("in one line, meeting", touchOf(new int[] {0, 0, 4, 4}, new int[] {4, 4, 9, 9}), 1);
        due("in one line, within", touchOf(new int[] {0, 0, 9, 0}, new int[] {4, 0, 6, 0}), 1);
        due("beside", touchOf(new int[] {0, 0, 9, 0}, new int[] {0, 1, 9, 1}), 0);
        due("boxes alone", touchOf(new int[] {0, 0, 9, 9}, new int[] {6, 2, 8, 4}), 0);
        due("within one that is closed",
                touchOf(new int[] {0, 0, 9, 0, 9, 9, 0, 9, 0, 0}, new int[] {3, 3, 5, 5}), 0);
        due("a late piece", touchOf(new int[] {0, 0, 9, 0, 9, 9, 0, 9, 0, 0},
                new int[] {3, 3, 5, 5, 4, 9}), 1);
        due("wide", touchOf(new int[] {0, 0, 500, 500}, new int[] {0, 500, 500, 0}), 1);
    }

    private static void starting() {
        sentence("promise 11");
        PenArm arm = new PenArm();
        due("none left", arm.start(), false);
        arm.stroke(0, 0);
        due("no plan", arm.start(), false);
        due("no run", arm.count(3), 0);
        arm.point(0, 0, 0);
        arm.point(0, 1, 0);
        due("start", arm.start(), true);
        due("one goes on", arm.start(), false);
        due("runs", arm.count(3), 1);
        due("goes on", arm.arm(4), 1);
        due("no ticks yet", arm.arm(5), 0);
        arm.step(10000);
        due("all drawn", arm.start(), false);
        due("runs", arm.count(3), 1);
    }

    private static void stepping() {
        sentence("promise 12");
        PenArm arm = new PenArm();
        due("no run", arm.step(1), NONE);
        due("no run", arm.step(0), NONE);
        line(arm, 0, 0, 0, 0, 500, 0);
        arm.price(0, 9);
        arm.start();
        due("-1", arm.step(-1), NONE);
        due("10001", arm.step(10001), NONE);
        due("0", arm.step(0), 0);
        due("nothing went by", arm.arm(5), 0);
        due("to the last", arm.step(30 + 5 + 4500 + 4), 4539);
        due("drawn, not lifted", arm.told(0, 4), 0);
        dueArm(arm, 500, 0, 0, 1);
        due("still going", arm.arm(4), 1);
        due("one is missing", arm.step(10000), 1);
        dueArm(arm, 500, 0, 0, 0);
        due("over", arm.arm(4), 0);
        due("over", arm.step(1), NONE);
        due("ticks", arm.arm(5), 4540);
    }

    private static void zeroTicks() {
        sentence("promise 12, what takes no ticks");
        PenArm arm = new PenArm();
        arm.price(2, 0);
        arm.price(3, 0);
        arm.price(4, 0);
        line(arm, 3, 0, 0, 0, 2, 0, 2, 2);
        line(arm, 1, 0, 2, 2, 4, 2);
        due("plan", arm.plan(), 12);
        arm.start();
        dueArm(arm, 0, 0, 3, 1);
        due("no ticks", arm.arm(5), 0);
        arm.step(7);
        dueArm(arm, 2, 1, 3, 1);
        due("units", arm.arm(8), 3);
        arm.step(1);
        dueArm(arm, 2, 2, 1, 1);
        due("the next one", arm.arm(7), 1);
        due("units", arm.arm(8), 0);
        due("the end too", arm.step(10), 4);
        dueArm(arm, 4, 2, 1, 0);
        due("over", arm.arm(4), 0);
        due("ended", arm.told(1, 5), 12);

        arm.clear();
        arm.price(3, 30);
        line(arm, 0, 0, 0, 0, 1, 0);
        arm.start();
        dueArm(arm, 0, 0, NONE, 0);
        arm.step(29);
        dueArm(arm, 0, 0, NONE, 0);
        arm.step(1);
        dueArm(arm, 0, 0, 0, 1);
    }

    private static void waiting() {
        sentence("promise 12, wet");
        PenArm arm = new PenArm();
        line(arm, 0, 100, 0, 0, 10, 0);
        line(arm, 0, 1000, 20, 0, 30, 0);
        line(arm, 0, 0, 5, 0, 5, 9);
        arm.over(1, 0, true);
        arm.over(2, 1, true);
        arm.start();
        due("0 ended", arm.step(30 + 5 + 20), 55);
        due("1 waits for nobody", arm.step(5 + 10 + 5 + 20), 40);
        due("told", arm.told(1, 5), 95);
        due("2 begins", arm.step(5 + 25 + 5), 35);
        dueArm(arm, 5, 0, 0, 1);
        due("waits for", arm.arm(7), 2);
        due("not yet", arm.arm(6), 0);
        arm.step(24);
        due("waited", arm.arm(6), 24);
        due("no units", arm.arm(8), 0);
        dueArm(arm, 5, 0, 0, 1);
        arm.step(3);
        due("dry 100 ticks behind its end", arm.arm(6), 25);
        dueArm(arm, 5, 1, 0, 1);
        due("rest", arm.step(10000), 16 + 5);
        due("stays told", arm.arm(6), 25);
        due("ticks", arm.arm(5), 155 + 18 + 5);

        line(arm, 0, 0, 5, 0, 6, 0);
        arm.start();
        due("in this run alone", arm.step(10000), 9 + 5 + 2 + 5);
        due("waited anew", arm.arm(6), 0);
        due("another run", arm.told(0, 5), NONE);
    }

    private static void slantedWay() {
        sentence("promise 12, where it is");
        PenArm arm = new PenArm();
        arm.price(0, 3);
        arm.price(1, 2);
        arm.price(3, 0);
        arm.price(2, 4);
        line(arm, 0, 0, 7, 10, 0, 4);
        due("begun", arm.planned(0, 1), 1);
        arm.clear();
        line(arm, 0, 0, 7, 10, 1, 0, 8, 20);
        line(arm, 0, 0, 8, 20, 8, 21);
        arm.over(1, 0, true);
        due("begun at its first", arm.planned(0, 1), 0);
        arm.start();
        arm.step(5);
        dueArm(arm, 1, 2, 0, 0);
        arm.step(4);
        dueArm(arm, 2, 4, 0, 0);
        arm.step(11);
        dueArm(arm, 7, 10, 0, 0);
        arm.step(4);
        dueArm(arm, 7, 10, 0, 1);
        arm.step(5);
        dueArm(arm, 7, 9, 0, 1);
        due("units", arm.arm(8), 1);
        arm.step(1);
        dueArm(arm, 6, 8, 0, 1);
        arm.step(24);
        dueArm(arm, 1, 0, 0, 1);
        due("units", arm.arm(8), 10);
        arm.step(3 + 2);
        dueArm(arm, 1, 0, 0, 1);
        due("units", arm.arm(8), 10);
        arm.step(7);
        dueArm(arm, 2, 3, 0, 1);
        due("units", arm.arm(8), 13);
    }

    private static void jamming() {
        sentence("promise 13");
        PenArm arm = new PenArm();
        due("no run", arm.jam(), false);
        due("no jam", arm.count(4), 0);
        line(arm, 0, 0, 0, 0, 10, 0, 10, 10, 20, 10);
        line(arm, 1, 0, 100, 100, 110, 100);
        arm.start();
        arm.step(35 + 20);
        due("reached", arm.arm(8), 10);
        due("jam", arm.jam(), true);
        duePoints(arm, 0, 10, 0, 10, 10, 20, 10);
        dueArm(arm, 10, 0, 0, 0);
        due("no run", arm.arm(4), 0);
        due("ticks stay", arm.arm(5), 55);
        due("none underway", arm.arm(7), NONE);
        due("no units", arm.arm(8), 0);
        due("left", arm.told(0, 4), 1);
        due("both left", arm.count(1), 2);
        due("jams", arm.count(4), 1);
        due("again", arm.jam(), false);
        due("goes on", arm.start(), true);
        arm.step(5 + 2);
        due("units are counted anew", arm.arm(8), 1);
        arm.step(18 + 1);
        dueArm(arm, 10, 10, 0, 1);
        due("in the corner", arm.jam(), true);
        duePoints(arm, 0, 10, 10, 20, 10);
        arm.start();
        due("the rest", arm.step(5 + 20), 25);
        due("ended", arm.told(0, 5), 25);
        due("drawn", arm.told(0, 4), 0);
        duePoints(arm, 0, 10, 10, 20, 10);
        due("no units of the next one", arm.arm(8), 0);
        arm.step(3);
        arm.jam();
        due("drawn stays drawn", arm.told(0, 4), 0);
        due("ended stays told", arm.told(0, 5), 25);
        due("one left", arm.count(1), 1);
    }

    private static void jammingBackward() {
        sentence("promise 13, back");
        PenArm arm = new PenArm();
        line(arm, 0, 0, 30, 0, 20, 0, 10, 0, 1, 0);
        due("from its last", arm.planned(0, 1), 1);
        arm.start();
        arm.step(30 + 1 + 5 + 18 + 3);
        arm.jam();
        duePoints(arm, 0, 10, 0, 20, 0, 30, 0);
        dueArm(arm, 11, 0, 0, 0);
        due("the latest, left, but cut", arm.point(0, 40, 0), NONE);
        due("begun at its first now", arm.planned(0, 1), 0);
        due("plan", arm.plan(), 1 + 5 + 40 + 5);
    }

    private static void jammingClosed() {
        sentence("promise 13, closed");
        PenArm arm = new PenArm();
        line(arm, 0, 0, 20, 20, 20, 10, 10, 10, 10, 20, 20, 20);
        due("from its nearest", arm.planned(0, 1), 2);
        arm.start();
        arm.step(30 + 10 + 5 + 2);
        dueArm(arm, 10, 11, 0, 1);
        arm.jam();
        duePoints(arm, 0, 10, 10, 10, 20, 20, 20, 20, 10, 10, 10);
        due("never closed", arm.told(0, 3), 0);
        due("forward or back", arm.ticks(0, 2), NONE);
        due("no more points", arm.point(0, 0, 0), NONE);
        due("forward", arm.planned(0, 1), 0);
        arm.start();
        arm.step(1 + 5 + 20 + 3 + 20 + 3 + 4);
        arm.jam();
        duePoints(arm, 0, 20, 20, 20, 10, 10, 10);
        due("still left", arm.told(0, 4), 1);
    }

    private static void jammingWithoutUnit() {
        sentence("promise 13, no unit");
        PenArm arm = new PenArm();
        line(arm, 0, 0, 9, 0, 9, 9, 0, 9, 0, 0, 9, 0);
        arm.start();
        arm.step(35);
        dueArm(arm, 0, 0, 0, 1);
        arm.step(1);
        due("no unit", arm.arm(8), 0);
        due("jam", arm.jam(), true);
        due("as it was", arm.told(0, 3), 1);
        duePoints(arm, 0, 9, 0, 9, 9, 0, 9, 0, 0, 9, 0);
        due("takes points", arm.point(0, 5, 5), 6);
        dueArm(arm, 0, 0, 0, 0);
    }

    private static void jammingInTheAir() {
        sentence("promise 13, in the air");
        PenArm arm = new PenArm();
        line(arm, 2, 0, 10, 20, 30, 20);
        arm.start();
        arm.step(29);
        due("jam", arm.jam(), true);
        dueArm(arm, 0, 0, NONE, 0);
        arm.start();
        arm.step(37);
        due("jam", arm.jam(), true);
        dueArm(arm, 3, 7, 2, 0);
        due("as it was", arm.told(0, 2), 2);
        due("from there with that pen", arm.plan(), 13 + 5 + 40 + 5);
        due("latest ticks", arm.arm(5), 37);
        arm.start();
        due("jam as it starts", arm.jam(), true);
        due("latest ticks", arm.arm(5), 0);
        due("jams", arm.count(4), 3);
    }

    private static void jammingAtTheEnd() {
        sentence("promise 13, at the end");
        PenArm arm = new PenArm();
        line(arm, 0, 50, 0, 0, 10, 0);
        line(arm, 0, 0, 10, 0, 10, 10);
        arm.start();
        arm.step(55 + 30);
        due("waits", arm.arm(6), 30);
        due("jam", arm.jam(), true);
        due("waited stays told", arm.arm(6), 30);
        due("as it was", arm.told(1, 4), 1);
        arm.start();
        due("no wait in another run", arm.step(5 + 20 + 2), 27);
        due("drawn", arm.told(1, 5), 25);
        due("behind the last one", arm.arm(7), NONE);
        due("no units", arm.arm(8), 0);
        dueArm(arm, 10, 10, 0, 1);
        due("jam in the lift", arm.jam(), true);
        dueArm(arm, 10, 10, 0, 0);
        due("all are drawn", arm.count(1), 0);
        due("not cut", arm.told(1, 2), 2);
    }

    private static void armTells() {
        sentence("promise 14");
        PenArm arm = new PenArm();
        due("what -1", arm.arm(-1), NONE);
        due("what 9", arm.arm(9), NONE);
        line(arm, 1, 0, 6, 0, 6, 3);
        line(arm, 2, 0, 6, 3, 9, 3);
        arm.start();
        due("to begin", arm.arm(7), 0);
        arm.step(30);
        due("pen", arm.arm(2), 1);
        arm.step(3);
        dueArm(arm, 3, 0, 1, 0);
        arm.step(7);
        dueArm(arm, 6, 0, 1, 0);
        arm.step(1);
        dueArm(arm, 6, 0, 1, 1);
        arm.step(6);
        due("to begin", arm.arm(7), 1);
        arm.step(4);
        dueArm(arm, 6, 3, 1, 1);
        arm.step(1);
        dueArm(arm, 6, 3, 1, 0);
        arm.step(29);
        dueArm(arm, 6, 3, 1, 0);
        arm.step(1);
        dueArm(arm, 6, 3, 2, 0);
        arm.step(5);
        dueArm(arm, 6, 3, 2, 1);
        arm.step(2);
        due("units", arm.arm(8), 1);
        due("ticks", arm.arm(5), 41 + 6 + 40 + 2);
        arm.step(10000);
        due("last run's ticks", arm.arm(5), 41 + 6 + 40 + 6 + 5);
        due("none", arm.arm(7), NONE);
    }

    private static void toldTells() {
        sentence("promise 15");
        PenArm arm = new PenArm();
        line(arm, 3, 1000, 1, 1, 2, 2);
        int[] first = {3, 1000, 2, 0, 1, NONE};
        for (int what = 0; what < 6; what++) {
            due("told(0, " + what + ")", arm.told(0, what), first[what]);
        }
        due("what -1", arm.told(0, -1), NONE);
        due("what 6", arm.told(0, 6), NONE);
        due("stroke 1", arm.told(1, 0), NONE);
        due("stroke -1", arm.told(-1, 0), NONE);
        arm.start();
        arm.step(30 + 1 + 5 + 1);
        due("left", arm.told(0, 4), 1);
        due("not ended", arm.told(0, 5), NONE);
        arm.step(1);
        due("not left", arm.told(0, 4), 0);
        due("ended", arm.told(0, 5), 38);
        arm.step(10000);
        due("stays told", arm.told(0, 5), 38);
        line(arm, 3, 0, 9, 9, 8, 8);
        due("still the latest run", arm.told(0, 5), 38);
        arm.start();
        due("a newer run", arm.told(0, 5), NONE);
    }

    private static void atTells() {
        sentence("promise 16");
        PenArm arm = new PenArm();
        due("no stroke", hasNone(arm, 0, 0), true);
        arm.stroke(0, 0);
        due("no point", hasNone(arm, 0, 0), true);
        arm.point(0, 7, 8);
        due("x", arm.at(0, 0, false), 7);
        due("y", arm.at(0, 0, true), 8);
        due("i -1", hasNone(arm, 0, -1), true);
        due("i 1", hasNone(arm, 0, 1), true);
        due("i 12", hasNone(arm, 0, 12), true);
        due("stroke -1", hasNone(arm, -1, 0), true);
        due("stroke 1", hasNone(arm, 1, 0), true);
        due("stroke 8", hasNone(arm, 8, 0), true);
    }

    private static void counts() {
        sentence("promise 17");
        PenArm arm = new PenArm();
        due("what -1", arm.count(-1), NONE);
        due("what 5", arm.count(5), NONE);
        line(arm, 0, 0, 0, 0, 1, 0);
        line(arm, 0, 0, 5, 0, 6, 0);
        arm.over(0, 1, true);
        arm.over(1, 0, true);
        int[] before = {2, 2, 2, 0, 0};
        for (int what = 0; what < 5; what++) {
            due("count(" + what + ")", arm.count(what), before[what]);
        }
        arm.over(0, 1, false);
        arm.start();
        arm.step(30 + 5 + 2);
        arm.jam();
        int[] after = {2, 1, 1, 1, 1};
        for (int what = 0; what < 5; what++) {
            due("count(" + what + ")", arm.count(what), after[what]);
        }
    }

    private static void refusedInARun() {
        sentence("a run");
        PenArm arm = new PenArm();
        line(arm, 0, 0, 0, 0, 10, 0);
        line(arm, 0, 0, 10, 0, 10, 10);
        arm.start();
        due("stroke", arm.stroke(0, 0), NONE);
        due("point", arm.point(1, 20, 20), NONE);
        due("over", arm.over(1, 0, true), false);
        due("price", arm.price(0, 1), false);
        due("clear", arm.clear(), false);
        due("start", arm.start(), false);
        due("plan", arm.plan(), 35 + 40 + 5);
        due("ticks", arm.ticks(0, 0), 20);
        due("touch", arm.touch(0, 1), 1);
        due("count", arm.count(0), 2);
        due("points", arm.told(1, 2), 2);
        due("pairs", arm.count(2), 0);
    }
}
