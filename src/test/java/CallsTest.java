/**
 * Promise by promise: what answers NONE, false or an exception and when, at the last value that is
 * allowed and at the first one that is not; and that a refused call changes nothing.
 */
public final class CallsTest extends Checks {
    public static void main(String[] args) {
        newObject();
        strokeAnswersItsNumber();
        strokeRefused();
        pointAnswersHowMany();
        pointNoSuchOne();
        pointNotTheLatest();
        pointNotLeft();
        pointRefusedOtherwise();
        overOfAllPairs();
        overNoSuchOnes();
        overAlike();
        overIsSo();
        priceWhich();
        priceAgain();
        clearAlways();
        clearMakesAllNew();
        clearLeavesWhatItDoesNotName();
        planIsNone();
        planIsZero();
        planFollowsEachChange();
        plannedWithout();
        plannedFollowsTheArm();
        ticksNoSuch();
        ticksOfAll();
        touchesAtEdges();
        touchNoSuchOnes();
        startDenied();
        startForgetsTheLastRun();
        stepBounds();
        stepEndsWithTheRun();
        stepNoRun();
        jamNoRun();
        armOthers();
        armOfRuns();
        armUnits();
        toldOthers();
        toldOfAStroke();
        atNoneSuch();
        atOfAStroke();
        countOthers();
        countsOfAll();
        wrongNumbersEverywhere();
        finish("what calls refuse holds");
    }

    private static void nothing(PenArm arm) {
    }

    /** A stroke without points, behind one that could be drawn. */
    private static void pointless(PenArm arm) {
        line(arm, 0, 0, 10, 0, 20, 0);
        arm.stroke(1, 7);
    }

    private static void onePoint(PenArm arm) {
        pointless(arm);
        arm.point(1, 20, 0);
    }

    private static void ready(PenArm arm) {
        line(arm, 1, 40, 10, 0, 20, 0, 20, 10);
        line(arm, 1, 0, 20, 10, 30, 10);
        line(arm, 2, 9, 50, 50, 60, 50, 60, 60, 50, 50);
        arm.over(1, 0, true);
    }

    private static void full(PenArm arm) {
        for (int s = 0; s < 8; s++) {
            line(arm, s % 4, s, 10 * s, 0, 10 * s + 5, 0);
        }
    }

    private static void round(PenArm arm) {
        ready(arm);
        arm.over(0, 1, true);
    }

    private static void drawn(PenArm arm) {
        ready(arm);
        arm.start();
        arm.step(10000);
    }

    private static void running(PenArm arm) {
        ready(arm);
        arm.start();
        arm.step(100);
    }

    /** Stroke 0 is drawn, stroke 1 is as it was. */
    private static void jammed(PenArm arm) {
        running(arm);
        arm.jam();
    }

    private static void cut(PenArm arm) {
        ready(arm);
        arm.start();
        arm.step(47);
        arm.jam();
    }

    private static Calls[] scenes() {
        return new Calls[] {CallsTest::nothing, CallsTest::pointless, CallsTest::onePoint,
            CallsTest::ready, CallsTest::full, CallsTest::round, CallsTest::drawn,
            CallsTest::running, CallsTest::jammed, CallsTest::cut};
    }

    private static void newObject() {
        sentence("Promise 1: No STROKES, all as told");
        PenArm arm = new PenArm();
        int[] tells = {0, 0, NONE, 0, 0, 0, 0, NONE, 0};
        for (int what = 0; what < 9; what++) {
            due("arm(" + what + ")", arm.arm(what), tells[what]);
        }
        for (int what = 0; what < 5; what++) {
            due("count(" + what + ")", arm.count(what), 0);
        }
        for (int s = 0; s < 8; s++) {
            due("told", arm.told(s, 0), NONE);
            due("ticks", arm.ticks(s, 0), NONE);
            due("touch", arm.touch(s, s), NONE);
            due("planned", arm.planned(s, 0), NONE);
            due("at", hasNone(arm, s, 0), true);
        }
        due("plan", arm.plan(), 0);
        PenArm other = new PenArm();
        line(other, 0, 0, 1, 1, 2, 2);
        other.price(0, 9);
        due("one knows nothing of another", arm.count(0), 0);
        line(arm, 0, 0, 1, 1, 2, 2);
        due("one knows nothing of another", arm.ticks(0, 0), 2);
    }

    private static void strokeAnswersItsNumber() {
        sentence("Promise 2: its number; it has no POINTS yet");
        PenArm arm = new PenArm();
        for (int s = 0; s < 8; s++) {
            due("its number", arm.stroke(s % 4, 100 * s), s);
            int[] tells = {s % 4, 100 * s, 0, 0, 1, NONE};
            for (int what = 0; what < 6; what++) {
                due("told(" + s + ", " + what + ")", arm.told(s, what), tells[what]);
            }
            due("no POINTS", hasNone(arm, s, 0), true);
            due("left", arm.count(1), s + 1);
        }
    }

    private static void strokeRefused() {
        sentence("Promise 2: NONE: there are eight, out of bounds, a RUN");
        refused("there are eight", CallsTest::full, arm -> arm.stroke(0, 0));
        refused("a RUN", CallsTest::running, arm -> arm.stroke(0, 0));
        for (Calls scene : scenes()) {
            refused("pen", scene, arm -> arm.stroke(-1, 0));
            refused("pen", scene, arm -> arm.stroke(4, 1000));
            refused("wet", scene, arm -> arm.stroke(3, -1));
            refused("wet", scene, arm -> arm.stroke(0, 1001));
        }
        PenArm seven = new PenArm();
        for (int s = 0; s < 7; s++) {
            seven.stroke(0, 0);
        }
        due("there are seven", seven.stroke(3, 1000), 7);
    }

    private static void pointAnswersHowMany() {
        sentence("Promise 3: A POINT behind the others of a STROKE: how many it has");
        PenArm arm = new PenArm();
        for (int s = 0; s < 8; s++) {
            arm.stroke(0, 0);
            for (int i = 1; i <= 12; i++) {
                due("how many", arm.point(s, 7 * s + i, 40 * i), i);
                due("told", arm.told(s, 2), i);
                due("behind the others", arm.at(s, i - 1, true), 40 * i);
            }
            due("the first stays", arm.at(s, 0, false), 7 * s + 1);
        }
    }

    private static void pointNoSuchOne() {
        sentence("Promise 3: NONE: no such one");
        refused("there are none", CallsTest::nothing, arm -> arm.point(0, 1, 1));
        refused("below", CallsTest::pointless, arm -> arm.point(-1, 1, 1));
        refused("above", CallsTest::pointless, arm -> arm.point(2, 1, 1));
        refused("above", CallsTest::full, arm -> arm.point(8, 1, 1));
        refused("gone", arm -> {
            pointless(arm);
            arm.clear();
        }, arm -> arm.point(1, 1, 1));
        for (int far : FAR) {
            refused("far", CallsTest::pointless, arm -> arm.point(far, 1, 1));
        }
    }

    private static void pointNotTheLatest() {
        sentence("Promise 3: NONE: it is not the latest STROKE");
        for (int s = 0; s < 7; s++) {
            int it = s;
            refused("stroke " + s + " of eight", CallsTest::full, arm -> arm.point(it, 99, 99));
        }
        due("the latest of eight", played(CallsTest::full).point(7, 99, 99), 3);
        refused("though the latest has no POINTS", CallsTest::pointless,
                arm -> arm.point(0, 99, 99));
        due("the latest, without POINTS", played(CallsTest::pointless).point(1, 99, 99), 1);
    }

    private static void pointNotLeft() {
        sentence("Promise 3: NONE: not LEFT, or CUT");
        refused("not left", CallsTest::drawn, arm -> arm.point(2, 99, 99));
        Calls latestDrawn = arm -> {
            line(arm, 0, 0, 0, 0, 5, 0);
            arm.start();
            arm.step(45);
            due("drawn, the lift is to come", arm.arm(4), 1);
            arm.jam();
        };
        refused("not left, behind a jam", latestDrawn, arm -> arm.point(0, 99, 99));
        Calls latestCut = arm -> {
            line(arm, 0, 0, 0, 0, 5, 0);
            arm.start();
            arm.step(44);
            arm.jam();
        };
        due("left", played(latestCut).told(0, 4), 1);
        refused("cut", latestCut, arm -> arm.point(0, 99, 99));
        due("as it was, behind a jam", played(CallsTest::jammed).point(2, 99, 99), 5);
    }

    private static void pointRefusedOtherwise() {
        sentence("Promise 3: NONE: out of bounds, like the last one, there are twelve; a RUN");
        int[][] bad = {{-1, 0}, {0, -1}, {501, 0}, {0, 501}};
        for (Calls scene : scenes()) {
            int latest = played(scene).count(0) - 1;
            for (int[] place : bad) {
                refused("out of bounds", scene, arm -> arm.point(latest, place[0], place[1]));
            }
        }
        refused("like the last one", CallsTest::ready, arm -> arm.point(2, 50, 50));
        refused("like the last one", CallsTest::onePoint, arm -> arm.point(1, 20, 0));
        Calls twelve = arm -> {
            ready(arm);
            for (int i = 5; i <= 12; i++) {
                due("room", arm.point(2, 10 * i, 9), i);
            }
        };
        refused("there are twelve", twelve, arm -> arm.point(2, 99, 99));
        refused("a RUN", CallsTest::running, arm -> arm.point(2, 99, 99));
    }

    private static void overOfAllPairs() {
        sentence("Promise 4: One STROKE is OVER another one, or no longer");
        PenArm arm = played(CallsTest::full);
        int pairs = 0;
        for (int s = 0; s < 8; s++) {
            for (int o = 0; o < 8; o++) {
                if (s != o) {
                    due("not yet", arm.over(s, o, false), false);
                    due("over", arm.over(s, o, true), true);
                    pairs++;
                    due("pairs", arm.count(2), pairs);
                }
            }
        }
        for (int s = 7; s >= 0; s--) {
            for (int o = 0; o < 8; o++) {
                if (s != o) {
                    due("no longer", arm.over(s, o, false), true);
                    pairs--;
                    due("pairs", arm.count(2), pairs);
                }
            }
        }
        due("plan", arm.plan() > 0, true);
    }

    private static void overNoSuchOnes() {
        sentence("Promise 4: False: no such ones");
        for (boolean is : new boolean[] {true, false}) {
            denied("there are none", CallsTest::nothing, arm -> arm.over(0, 1, is));
            denied("other above", CallsTest::ready, arm -> arm.over(0, 3, is));
            denied("other below", CallsTest::ready, arm -> arm.over(0, -1, is));
            denied("above", CallsTest::ready, arm -> arm.over(3, 0, is));
            denied("below", CallsTest::ready, arm -> arm.over(-1, 0, is));
            denied("above eight", CallsTest::full, arm -> arm.over(8, 0, is));
            denied("other above eight", CallsTest::full, arm -> arm.over(0, 8, is));
            for (int far : FAR) {
                denied("far", CallsTest::ready, arm -> arm.over(far, 0, is));
                denied("far", CallsTest::ready, arm -> arm.over(0, far, is));
            }
            denied("32 is not 0", CallsTest::ready, arm -> arm.over(1, 32, is));
        }
        due("the last one", played(CallsTest::ready).over(2, 0, true), true);
        due("the last one", played(CallsTest::ready).over(0, 2, true), true);
        due("without POINTS", played(CallsTest::pointless).over(1, 0, true), true);
        due("drawn ones", played(CallsTest::drawn).over(0, 1, true), true);
    }

    private static void overAlike() {
        sentence("Promise 4: False: alike");
        for (int s = 0; s < 8; s++) {
            int it = s;
            denied("alike", CallsTest::full, arm -> arm.over(it, it, true));
            denied("alike", CallsTest::full, arm -> arm.over(it, it, false));
        }
    }

    private static void overIsSo() {
        sentence("Promise 4: False: it is so, a RUN");
        denied("it is so", CallsTest::ready, arm -> arm.over(1, 0, true));
        denied("it is not so", CallsTest::ready, arm -> arm.over(0, 1, false));
        denied("it is not so", CallsTest::ready, arm -> arm.over(2, 0, false));
        due("the other way round is another pair",
                played(CallsTest::ready).over(0, 1, true), true);
        denied("a RUN", CallsTest::running, arm -> arm.over(0, 1, true));
        denied("a RUN", CallsTest::running, arm -> arm.over(1, 0, false));
        denied("it is so, of drawn ones", CallsTest::drawn, arm -> arm.over(1, 0, true));
    }

    private static void priceWhich() {
        sentence("Promise 5: 0 drawing, 1 air, 2 LIFT, 3 CHANGED, 4 CORNER. False: out of bounds");
        for (Calls scene : scenes()) {
            denied("which -1", scene, arm -> arm.price(-1, 5));
            denied("which 5", scene, arm -> arm.price(5, 5));
            denied("0 of 0", scene, arm -> arm.price(0, 0));
            denied("1 of 10", scene, arm -> arm.price(1, 10));
            denied("2 of 100", scene, arm -> arm.price(2, 100));
            denied("3 of 1000", scene, arm -> arm.price(3, 1000));
            denied("4 of -1", scene, arm -> arm.price(4, -1));
        }
        for (int far : FAR) {
            denied("far", CallsTest::ready, arm -> arm.price(far, 5));
        }
        for (int which = 0; which < 5; which++) {
            int it = which;
            denied("a RUN", CallsTest::running, arm -> arm.price(it, 5));
        }
    }

    private static void priceAgain() {
        sentence("Promise 5: A PRICE (the same one again is no refusal)");
        int[] first = {2, 1, 5, 30, 3};
        for (int which = 0; which < 5; which++) {
            int it = which;
            due("as it is", played(CallsTest::ready).price(which, first[which]), true);
            unchanged("as it is", CallsTest::ready, arm -> arm.price(it, first[it]));
        }
        PenArm arm = played(CallsTest::drawn);
        due("of an arm that has drawn all", arm.price(0, 9), true);
        due("ticks of drawn ones", arm.ticks(0, 0), 183);
    }

    private static void clearAlways() {
        sentence("Promise 6: All STROKES are gone, the arm is at 0, 0 without a pen");
        for (Calls scene : scenes()) {
            PenArm arm = played(scene);
            boolean goesOn = arm.arm(4) == 1;
            due("clear", arm.clear(), !goesOn);
            if (goesOn) {
                continue;
            }
            dueArm(arm, 0, 0, NONE, 0);
            for (int what = 0; what < 3; what++) {
                due("count", arm.count(what), 0);
            }
            for (int s = 0; s < 8; s++) {
                due("gone", arm.told(s, 0), NONE);
                due("gone", hasNone(arm, s, 0), true);
            }
            duePlan(arm, 0);
            ready(arm);
            due("pairs of the new ones alone", arm.count(2), 1);
            duePlan(arm, 45 + 43 + 20 + 80 + 66 + 5, 0, 0, 1, 0, 2, 0);
        }
        denied("a RUN", CallsTest::running, arm -> arm.clear());
    }

    private static void clearMakesAllNew() {
        sentence("Promise 6: All STROKES are gone: a new one is as any new one");
        for (Calls scene : scenes()) {
            PenArm arm = played(scene);
            arm.jam();
            arm.clear();
            for (int s = 0; s < 8; s++) {
                due("its number", arm.stroke(3, 5), s);
                int[] tells = {3, 5, 0, 0, 1, NONE};
                for (int what = 0; what < 6; what++) {
                    due("told(" + s + ", " + what + ")", arm.told(s, what), tells[what]);
                }
                due("it takes POINTS", arm.point(s, 9, 9), 1);
                due("over none", s > 0 && arm.over(s, s - 1, false), false);
                due("under none", s > 0 && arm.over(s - 1, s, false), false);
            }
        }
    }

    private static void clearLeavesWhatItDoesNotName() {
        sentence("Promise 6: what it does not name stays: PRICES, RUNS, jams, the last RUN's ticks");
        PenArm arm = played(CallsTest::jammed);
        arm.price(0, 3);
        arm.price(4, 0);
        arm.clear();
        due("runs", arm.count(3), 1);
        due("jams", arm.count(4), 1);
        due("ticks", arm.arm(5), 100);
        due("waited", arm.arm(6), 12);
        line(arm, 0, 0, 0, 0, 10, 0, 10, 10);
        due("prices", arm.ticks(0, 0), 60);
    }

    private static void planIsNone() {
        sentence("Promise 7: NONE: there is none; a STROKE that is LEFT has one POINT or none");
        due("none of its POINTS", played(CallsTest::pointless).plan(), NONE);
        due("one POINT", played(CallsTest::onePoint).plan(), NONE);
        PenArm two = played(CallsTest::onePoint);
        two.point(1, 20, 5);
        due("two POINTS", two.plan() > 0, true);
        PenArm first = new PenArm();
        first.stroke(0, 0);
        line(first, 0, 0, 1, 1, 2, 2);
        due("not the latest", first.plan(), NONE);
        due("none planned", first.planned(0, 0), NONE);
        PenArm behind = played(CallsTest::drawn);
        behind.stroke(0, 0);
        due("behind drawn ones", behind.plan(), NONE);
        due("OVER goes round", played(CallsTest::round).plan(), NONE);
        for (Calls scene : scenes()) {
            unchanged("plan", scene, arm -> arm.plan());
        }
    }

    private static void planIsZero() {
        sentence("Promise 7: 0: none are LEFT");
        due("a new object", new PenArm().plan(), 0);
        due("all drawn", played(CallsTest::drawn).plan(), 0);
        PenArm arm = played(CallsTest::drawn);
        arm.over(0, 1, true);
        due("all drawn, and OVER goes round", arm.plan(), 0);
        PenArm lifting = new PenArm();
        line(lifting, 0, 0, 0, 0, 5, 0);
        lifting.start();
        lifting.step(46);
        due("of one that goes on, with none left", lifting.plan(), 50);
        lifting.jam();
        due("none left behind a jam", lifting.plan(), 0);
    }

    /** Each call stands between two that ask for the plan. */
    private static void planFollowsEachChange() {
        sentence("Promise 7: The sum of ticks of PLAN, as it is now");
        PenArm arm = new PenArm();
        duePlan(arm, 0);
        arm.stroke(0, 0);
        duePlan(arm, NONE);
        arm.point(0, 10, 0);
        duePlan(arm, NONE);
        arm.point(0, 20, 0);
        duePlan(arm, 45 + 20 + 5, 0, 0);
        arm.point(0, 20, 10);
        duePlan(arm, 45 + 43 + 5, 0, 0);
        line(arm, 0, 0, 20, 10, 30, 10);
        duePlan(arm, 45 + 63 + 5, 0, 0, 1, 0);
        arm.over(0, 1, true);
        duePlan(arm, 65 + 63 + 5, 1, 1, 0, 1);
        arm.price(4, 13);
        duePlan(arm, 65 + 73 + 5, 1, 1, 0, 1);
        arm.over(0, 1, false);
        duePlan(arm, 45 + 73 + 5, 0, 0, 1, 0);
        arm.start();
        arm.step(50);
        duePlan(arm, 45 + 73 + 5, 0, 0, 1, 0);
        arm.jam();
        duePlan(arm, 2 + 5 + 73 + 5, 0, 0, 1, 0);
        arm.start();
        arm.step(10000);
        duePlan(arm, 0);
        arm.stroke(0, 0);
        duePlan(arm, NONE);
        arm.clear();
        duePlan(arm, 0);
        line(arm, 0, 0, 0, 0, 5, 0);
        duePlan(arm, 35 + 10 + 5, 0, 0);
        arm.clear();
        duePlan(arm, 0);
    }

    private static void plannedWithout() {
        sentence("Promise 8: NONE without");
        int[] many = {0, 0, 0, 3, 8, 0, 0, 3, 2, 3};
        Calls[] scenes = scenes();
        for (int k = 0; k < scenes.length; k++) {
            PenArm arm = played(scenes[k]);
            for (int i = -2; i <= 9; i++) {
                for (int what = -1; what <= 4; what++) {
                    boolean is = i >= 0 && i < many[k] && what >= 0 && what <= 3;
                    due("scene " + k + ", planned(" + i + ", " + what + ")",
                            arm.planned(i, what) != NONE, is);
                }
            }
            for (int far : FAR) {
                due("far", arm.planned(far, 0), NONE);
                due("far", arm.planned(0, far), NONE);
            }
            unchanged("planned", scenes[k], it -> it.planned(0, 0));
        }
    }

    private static void plannedFollowsTheArm() {
        sentence("Promise 8: Of the i-th STROKE by PLAN");
        PenArm arm = played(CallsTest::ready);
        int[][] rows = {{0, 0, 43, 45}, {1, 0, 20, 0}, {2, 0, 66, 80}};
        for (int i = 0; i < 3; i++) {
            for (int what = 0; what < 4; what++) {
                due("planned(" + i + ", " + what + ")", arm.planned(i, what), rows[i][what]);
            }
        }
        int sum = 5;
        for (int i = 0; i < 3; i++) {
            sum += arm.planned(i, 2) + arm.planned(i, 3);
        }
        due("the sum of all and the last LIFT", arm.plan(), sum);
    }

    private static void ticksNoSuch() {
        sentence("Promise 9: NONE: no such");
        due("there are none", new PenArm().ticks(0, 0), NONE);
        PenArm arm = played(CallsTest::ready);
        due("above", arm.ticks(3, 0), NONE);
        due("below", arm.ticks(-1, 0), NONE);
        due("the last one", arm.ticks(2, 2), 60 + 6);
        due("the last one, beyond", arm.ticks(2, 3), NONE);
        due("beginning 2 of an open one", arm.ticks(0, 2), NONE);
        due("beginning -1", arm.ticks(0, -1), NONE);
        for (int far : FAR) {
            due("far", arm.ticks(far, 0), NONE);
            due("far", arm.ticks(0, far), NONE);
            due("far", arm.ticks(2, far), NONE);
        }
        due("no POINTS", played(CallsTest::pointless).ticks(1, 0), NONE);
        due("one POINT", played(CallsTest::onePoint).ticks(1, 0), NONE);
        due("one POINT", played(CallsTest::onePoint).ticks(1, 1), NONE);
        for (Calls scene : scenes()) {
            unchanged("ticks", scene, it -> it.ticks(0, 0));
            unchanged("no such", scene, it -> it.ticks(8, 11));
        }
    }

    private static void ticksOfAll() {
        sentence("Promise 9: TICKS of a STROKE from a BEGINNING");
        due("of drawn ones too", played(CallsTest::drawn).ticks(0, 1), 43);
        due("in a RUN too", played(CallsTest::running).ticks(0, 1), 43);
        due("though there is no PLAN", played(CallsTest::round).ticks(2, 1), 66);
        PenArm arm = new PenArm();
        line(arm, 0, 0, 0, 0, 10, 0, 10, 10);
        arm.start();
        arm.step(35 + 30);
        arm.jam();
        due("of what is left of one", arm.ticks(0, 0), 20);
    }

    private static void dueTouch(String name, int want, int... places) {
        int[] one = java.util.Arrays.copyOf(places, 4);
        int[] other = java.util.Arrays.copyOfRange(places, 4, places.length);
        due(name, touchOf(one, other), want);
    }

    private static void touchesAtEdges() {
        sentence("Promise 10: Whether two STROKES TOUCH (1, 0; one itself: 1)");
        dueTouch("end on end", 1, 0, 0, 5, 5, 5, 5, 9, 0);
        dueTouch("end beside end, x", 0, 0, 0, 5, 5, 6, 5, 9, 0);
        dueTouch("end beside end, y", 0, 0, 0, 5, 5, 5, 6, 0, 9);
        dueTouch("end on the middle", 1, 0, 0, 10, 0, 5, 0, 5, 9);
        dueTouch("end just above the middle", 0, 0, 0, 10, 0, 5, 1, 5, 9);
        dueTouch("end on a slanted middle", 1, 0, 0, 9, 3, 3, 1, 3, 9);
        dueTouch("end beside a slanted middle", 0, 0, 0, 9, 3, 4, 2, 3, 9);
        dueTouch("crossing off the POINTS", 1, 0, 0, 3, 2, 1, 1, 2, 0);
        dueTouch("crossing between whole numbers", 1, 0, 0, 1, 1, 0, 1, 1, 0);
        dueTouch("crossing only if it went on", 0, 0, 0, 4, 4, 9, 0, 5, 4);
        dueTouch("crossing only if the other went on", 0, 9, 0, 5, 4, 0, 0, 4, 4);
        dueTouch("in one line, apart", 0, 0, 0, 4, 0, 5, 0, 9, 0);
        dueTouch("in one line, end on end", 1, 0, 0, 4, 0, 4, 0, 9, 0);
        dueTouch("in one line, a part in common", 1, 0, 0, 6, 0, 4, 0, 9, 0);
        dueTouch("in one line, one within the other", 1, 0, 0, 9, 9, 3, 3, 6, 6);
        dueTouch("in one line, other way round", 1, 9, 9, 0, 0, 3, 3, 6, 6);
        dueTouch("upright, apart", 0, 7, 0, 7, 4, 7, 5, 7, 9);
        dueTouch("upright, end on end", 1, 7, 0, 7, 4, 7, 4, 7, 9);
        dueTouch("side by side", 0, 0, 0, 9, 9, 0, 1, 8, 9);
        dueTouch("side by side, as near as can be", 0, 0, 0, 1, 1, 0, 1, 1, 2);
        dueTouch("side by side, as near as can be", 0, 0, 0, 1, 1, 1, 0, 2, 1);
        dueTouch("side by side, slanted down", 0, 0, 2, 2, 1, 0, 3, 2, 2);
        dueTouch("the same one again", 1, 3, 4, 8, 9, 3, 4, 8, 9);
        dueTouch("the widest", 1, 0, 0, 500, 500, 500, 0, 0, 500);
        dueTouch("the widest, by a hair", 0, 0, 0, 500, 499, 499, 499, 0, 500);
        dueTouch("the widest, on it", 1, 0, 0, 500, 499, 500, 499, 0, 500);
        dueTouch("by the last piece alone", 1, 0, 0, 9, 0, 0, 5, 9, 5, 9, 9, 12, 9, 9, 0);
        dueTouch("by none of the pieces", 0, 0, 0, 9, 0, 0, 5, 9, 5, 9, 9, 12, 9, 10, 0);
        dueTouch("inside a ring", 0, 4, 4, 5, 5, 0, 0, 9, 0, 9, 9, 0, 9, 0, 0);
        dueTouch("from a ring outward", 1, 9, 4, 15, 5, 0, 0, 9, 0, 9, 9, 0, 9, 0, 0);
        PenArm arm = played(CallsTest::drawn);
        for (int s = 0; s < 3; s++) {
            due("one itself", arm.touch(s, s), 1);
        }
        due("drawn ones", arm.touch(0, 1), 1);
        due("drawn ones", arm.touch(0, 2), 0);
    }

    private static void touchNoSuchOnes() {
        sentence("Promise 10: NONE: no such ones, or with fewer than two POINTS");
        due("there are none", new PenArm().touch(0, 0), NONE);
        PenArm arm = played(CallsTest::ready);
        due("above", arm.touch(0, 3), NONE);
        due("above", arm.touch(3, 0), NONE);
        due("above, itself", arm.touch(3, 3), NONE);
        due("below", arm.touch(-1, 0), NONE);
        due("below", arm.touch(0, -1), NONE);
        for (int far : FAR) {
            due("far", arm.touch(far, 0), NONE);
            due("far", arm.touch(0, far), NONE);
            due("far, itself", arm.touch(far, far), NONE);
        }
        for (Calls scene : new Calls[] {CallsTest::pointless, CallsTest::onePoint}) {
            PenArm few = played(scene);
            due("too few POINTS", few.touch(1, 0), NONE);
            due("too few POINTS", few.touch(0, 1), NONE);
            due("too few POINTS, itself", few.touch(1, 1), NONE);
            due("enough", few.touch(0, 0), 1);
            few.point(1, 20, 3);
            few.point(1, 20, 4);
            due("enough now", few.touch(0, 1) != NONE, true);
        }
        for (Calls scene : scenes()) {
            unchanged("touch", scene, it -> it.touch(0, 1));
            unchanged("no such", scene, it -> it.touch(0, 8));
        }
    }

    private static void startDenied() {
        sentence("Promise 11: False: there is no PLAN, none are LEFT, one goes on");
        denied("none are LEFT: new", CallsTest::nothing, arm -> arm.start());
        denied("none are LEFT: drawn", CallsTest::drawn, arm -> arm.start());
        denied("no PLAN: no POINTS", CallsTest::pointless, arm -> arm.start());
        denied("no PLAN: one POINT", CallsTest::onePoint, arm -> arm.start());
        denied("no PLAN: OVER goes round", CallsTest::round, arm -> arm.start());
        denied("one goes on", CallsTest::running, arm -> arm.start());
        denied("no PLAN, behind a RUN", arm -> {
            drawn(arm);
            arm.stroke(0, 0);
        }, arm -> arm.start());
        denied("none are LEFT: cleared", arm -> {
            jammed(arm);
            arm.clear();
        }, arm -> arm.start());
        int[] goes = {0, 0, 0, 1, 1, 0, 0, 0, 1, 1};
        Calls[] scenes = scenes();
        for (int k = 0; k < scenes.length; k++) {
            PenArm arm = played(scenes[k]);
            int runs = arm.count(3);
            due("start, scene " + k, arm.start(), goes[k] == 1);
            due("RUNS started", arm.count(3), runs + goes[k]);
        }
    }

    private static void startForgetsTheLastRun() {
        sentence("Promise 11: A RUN starts (its ticks, what it waited and what it ended are its own)");
        PenArm arm = played(CallsTest::jammed);
        due("ticks", arm.arm(5), 100);
        due("waited", arm.arm(6), 12);
        due("ended", arm.told(0, 5), 88);
        due("start", arm.start(), true);
        due("goes on", arm.arm(4), 1);
        due("ticks", arm.arm(5), 0);
        due("waited", arm.arm(6), 0);
        due("ended", arm.told(0, 5), NONE);
        due("drawn all the same", arm.told(0, 4), 0);
    }

    /** A run of 30 + 5 + 8 * 4500 + 5 ticks. */
    private static void longest(PenArm arm) {
        arm.price(0, 9);
        for (int s = 0; s < 8; s++) {
            line(arm, 0, 0, s % 2 * 500, 0, 500 - s % 2 * 500, 0);
        }
        arm.start();
    }

    private static void stepBounds() {
        sentence("Promise 12: n ticks (0 .. 10,000). NONE: n");
        due("10,000", played(CallsTest::longest).step(10000), 10000);
        due("9,999", played(CallsTest::longest).step(9999), 9999);
        due("0", played(CallsTest::longest).step(0), 0);
        due("1", played(CallsTest::longest).step(1), 1);
        refused("10,001", CallsTest::longest, arm -> arm.step(10001));
        refused("-1", CallsTest::longest, arm -> arm.step(-1));
        for (int far : FAR) {
            refused("far", CallsTest::longest, arm -> arm.step(far));
        }
        unchanged("0", CallsTest::running, arm -> arm.step(0));
        PenArm arm = played(CallsTest::longest);
        for (int k = 1; k <= 3; k++) {
            due("10,000", arm.step(10000), 10000);
            due("so far", arm.arm(5), 10000 * k);
        }
        due("the rest", arm.step(10000), 6040);
        due("in all", arm.arm(5), 36040);
    }

    private static void stepEndsWithTheRun() {
        sentence("Promise 12: fewer if the RUN ends (all are drawn; the arm is up where it is)");
        int all = played(CallsTest::drawn).arm(5);
        due("as planned, and waited", all, 40 + played(CallsTest::ready).plan());
        for (int n : new int[] {all - 1, all, all + 1}) {
            PenArm arm = played(CallsTest::ready);
            arm.start();
            due("step " + n, arm.step(n), Math.min(n, all));
            due("goes on", arm.arm(4), n < all ? 1 : 0);
            due("down", arm.arm(3), n < all ? 1 : 0);
            due("left", arm.count(1), 0);
            due("underway", arm.arm(7), NONE);
            due("ticks", arm.arm(5), Math.min(n, all));
            due("one more", arm.step(1), n < all ? 1 : NONE);
            dueArm(arm, 50, 50, 2, 0);
            due("jams", arm.count(4), 0);
        }
    }

    private static void stepNoRun() {
        sentence("Promise 12: NONE: no RUN");
        for (Calls scene : scenes()) {
            if (played(scene).arm(4) == 0) {
                refused("0", scene, arm -> arm.step(0));
                refused("1", scene, arm -> arm.step(1));
                refused("10,000", scene, arm -> arm.step(10000));
            }
        }
    }

    private static void jamNoRun() {
        sentence("Promise 13: JAM. False: no RUN");
        for (Calls scene : scenes()) {
            if (played(scene).arm(4) == 0) {
                denied("jam", scene, arm -> arm.jam());
            }
        }
        PenArm arm = played(CallsTest::ready);
        arm.start();
        due("as it starts", arm.jam(), true);
        due("again", arm.jam(), false);
        due("jams", arm.count(4), 1);
        arm.start();
        arm.step(played(CallsTest::drawn).arm(5) - 1);
        due("at its last tick but one", arm.jam(), true);
        due("all drawn", arm.count(1), 0);
        due("jams", arm.count(4), 2);
    }

    private static void armOthers() {
        sentence("Promise 14: NONE for others");
        for (Calls scene : scenes()) {
            PenArm arm = played(scene);
            due("-1", arm.arm(-1), NONE);
            due("9", arm.arm(9), NONE);
            for (int far : FAR) {
                due("far", arm.arm(far), NONE);
            }
            due("8", arm.arm(8) != NONE, true);
            unchanged("arm", scene, it -> it.arm(9));
        }
    }

    private static void armOfRuns() {
        sentence("Promise 14: 4 whether a RUN goes on, 5 its ticks so far (the last RUN's), "
                + "6 ticks waited in it, 7 the STROKE (NONE: no RUN, or behind the last one)");
        int[][] rows = {{0, 0, 0, NONE}, {0, 0, 0, NONE}, {0, 0, 0, NONE}, {0, 0, 0, NONE},
            {0, 0, 0, NONE}, {0, 0, 0, NONE}, {0, 299, 40, NONE}, {1, 100, 12, 1},
            {0, 100, 12, NONE}, {0, 47, 0, NONE}};
        Calls[] scenes = scenes();
        for (int k = 0; k < scenes.length; k++) {
            PenArm arm = played(scenes[k]);
            for (int what = 4; what <= 7; what++) {
                due("scene " + k + ", arm(" + what + ")", arm.arm(what), rows[k][what - 4]);
            }
            due("scene " + k + ", arm(8)", arm.arm(8), 0);
        }
        PenArm arm = played(CallsTest::running);
        int[][] underway = {{100, 1}, {147, 1}, {148, 2}, {153, 2}, {228, 2}, {293, 2}, {294, NONE},
            {298, NONE}};
        for (int[] row : underway) {
            arm.step(row[0] - arm.arm(5));
            due("ticks", arm.arm(5), row[0]);
            due("goes on", arm.arm(4), 1);
            due("at " + row[0], arm.arm(7), row[1]);
        }
    }

    private static void armUnits() {
        sentence("Promise 14: 8 units drawn of it (0)");
        int[][] rows = {{0, 0}, {44, 0}, {45, 0}, {46, 0}, {47, 1}, {48, 1}, {49, 2}, {64, 9},
            {65, 10}, {67, 10}, {68, 10}, {69, 10}, {70, 11}, {87, 19}, {88, 0}, {127, 0}, {129, 0},
            {130, 1}, {147, 9}, {148, 0}};
        PenArm arm = played(CallsTest::ready);
        arm.start();
        for (int[] row : rows) {
            arm.step(row[0] - arm.arm(5));
            due("at " + row[0], arm.arm(8), row[1]);
        }
    }

    private static void toldOthers() {
        sentence("Promise 15: NONE for others, or if there is none such");
        for (Calls scene : scenes()) {
            PenArm arm = played(scene);
            int many = arm.count(0);
            for (int what = 0; what < 6; what++) {
                due("above", arm.told(many, what), NONE);
                due("below", arm.told(-1, what), NONE);
            }
            due("what -1", arm.told(0, -1), NONE);
            due("what 6", arm.told(0, 6), NONE);
            if (many > 0) {
                due("the last one", arm.told(many - 1, 4) != NONE, true);
            }
            for (int far : FAR) {
                due("far", arm.told(far, 0), NONE);
                due("far", arm.told(0, far), NONE);
            }
            unchanged("told", scene, it -> it.told(0, 6));
        }
    }

    private static void toldOfAStroke() {
        sentence("Promise 15: pen, WET, POINTS, CLOSED, LEFT, the tick at which it was ended");
        int[][] rows = {{1, 40, 3, 0, 1, NONE}, {1, 0, 2, 0, 1, NONE}, {2, 9, 4, 1, 1, NONE}};
        int[][] ended = {{1, 40, 3, 0, 0, 88}, {1, 0, 2, 0, 0, 148}, {2, 9, 4, 1, 0, 294}};
        PenArm before = played(CallsTest::ready);
        PenArm behind = played(CallsTest::drawn);
        for (int s = 0; s < 3; s++) {
            for (int what = 0; what < 6; what++) {
                due("told(" + s + ", " + what + ")", before.told(s, what), rows[s][what]);
                due("told(" + s + ", " + what + ")", behind.told(s, what), ended[s][what]);
            }
        }
        PenArm jammed = played(CallsTest::jammed);
        due("ended in the latest RUN, jammed", jammed.told(0, 5), 88);
        due("not ended in it", jammed.told(1, 5), NONE);
    }

    private static void atNoneSuch() {
        sentence("Promise 16: NoSuchElementException: there is none such");
        for (Calls scene : scenes()) {
            PenArm arm = played(scene);
            int many = arm.count(0);
            due("stroke above", hasNone(arm, many, 0), true);
            due("stroke below", hasNone(arm, -1, 0), true);
            for (int s = 0; s < many; s++) {
                due("POINT above", hasNone(arm, s, arm.told(s, 2)), true);
                due("POINT below", hasNone(arm, s, -1), true);
                due("POINT 12", hasNone(arm, s, 12), true);
                if (arm.told(s, 2) > 0) {
                    due("the last one is", hasNone(arm, s, arm.told(s, 2) - 1), false);
                    due("the first one is", hasNone(arm, s, 0), false);
                }
            }
            for (int far : FAR) {
                due("far", hasNone(arm, far, 0), true);
                due("far", hasNone(arm, 0, far), true);
            }
            unchanged("at", scene, it -> hasNone(it, 0, 12));
        }
        PenArm cut = new PenArm();
        line(cut, 0, 0, 0, 0, 10, 0, 10, 10);
        cut.start();
        cut.step(35 + 30);
        cut.jam();
        due("what was drawn of it is gone", hasNone(cut, 0, 2), true);
        PenArm gone = played(CallsTest::drawn);
        gone.clear();
        gone.stroke(0, 0);
        due("the old ones are gone", hasNone(gone, 0, 0), true);
    }

    private static void atOfAStroke() {
        sentence("Promise 16: POINT i of a STROKE: x, or y");
        PenArm arm = new PenArm();
        arm.stroke(0, 0);
        for (int i = 0; i < 12; i++) {
            arm.point(0, 500 - i, 40 * i);
        }
        for (int i = 0; i < 12; i++) {
            due("x", arm.at(0, i, false), 500 - i);
            due("y", arm.at(0, i, true), 40 * i);
        }
        duePoints(played(CallsTest::drawn), 2, 50, 50, 60, 50, 60, 60, 50, 50);
    }

    private static void countOthers() {
        sentence("Promise 17: NONE for others");
        for (Calls scene : scenes()) {
            PenArm arm = played(scene);
            due("-1", arm.count(-1), NONE);
            due("5", arm.count(5), NONE);
            for (int far : FAR) {
                due("far", arm.count(far), NONE);
            }
            unchanged("count", scene, it -> it.count(5));
        }
    }

    private static void countsOfAll() {
        sentence("Promise 17: 0 STROKES, 1 that are LEFT, 2 pairs OVER, 3 RUNS started, 4 jams");
        int[][] rows = {{0, 0, 0, 0, 0}, {2, 2, 0, 0, 0}, {2, 2, 0, 0, 0}, {3, 3, 1, 0, 0},
            {8, 8, 0, 0, 0}, {3, 3, 2, 0, 0}, {3, 0, 1, 1, 0}, {3, 2, 1, 1, 0}, {3, 2, 1, 1, 1},
            {3, 3, 1, 1, 1}};
        Calls[] scenes = scenes();
        for (int k = 0; k < scenes.length; k++) {
            for (int what = 0; what < 5; what++) {
                due("scene " + k + ", count(" + what + ")", played(scenes[k]).count(what),
                        rows[k][what]);
            }
        }
    }

    /** No call throws but at(), whatever it is given; those that tell change nothing. */
    private static void wrongNumbersEverywhere() {
        sentence("any numbers, anywhere");
        int[] numbers = {Integer.MIN_VALUE, -1, 0, 1, 2, 3, 5, 7, 8, 11, 12, 31, 32, 500, 501, 1001,
            10001, Integer.MAX_VALUE};
        for (Calls scene : scenes()) {
            for (int one : numbers) {
                unchanged("telling " + one, scene, arm -> askAll(arm, one, numbers));
                PenArm arm = played(scene);
                for (int other : numbers) {
                    arm.point(one, other, one);
                    arm.over(one, other, true);
                    arm.price(one, other);
                    arm.step(one);
                    arm.stroke(one, other);
                    arm.start();
                }
                arm.jam();
                arm.clear();
            }
        }
    }

    private static void askAll(PenArm arm, int one, int[] numbers) {
        arm.arm(one);
        arm.count(one);
        for (int other : numbers) {
            arm.planned(one, other);
            arm.ticks(one, other);
            arm.touch(one, other);
            arm.told(one, other);
            throwsIt(arm, one, other, other % 2 == 0);
        }
    }
}
