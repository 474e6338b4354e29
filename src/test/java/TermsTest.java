/** The bounds and the cases under "Terms", 1: strokes, prices, beginnings and the plan. */
public final class TermsTest extends Checks {
    public static void main(String[] args) {
        placesOfPoints();
        wayOfTwo();
        eightStrokes();
        twoToTwelvePoints();
        otherThanTheOneAhead();
        pens();
        wets();
        closedOnes();
        pricesAtFirst();
        boundsOfPrices();
        beginnings();
        openFromBothEnds();
        closedRound();
        ticksOfPieces();
        corners();
        cornersBetweenPieces();
        armAtFirst();
        beginning();
        beginningFromTheAir();
        liftedBehindTheLast();
        behindThoseLeft();
        leastSum();
        fromWhereTheArmIs();
        lowerStrokeOfSeveral();
        lowerBeginningOfSeveral();
        whereTheyFirstDiffer();
        overGoesRound();
        overGoesRoundAmongThoseLeft();
        fullestPlan();
        finish("the terms of strokes and plans hold");
    }

    private static void placesOfPoints() {
        sentence("POINTS have whole numbers 0 .. 500");
        Calls scene = arm -> line(arm, 0, 0, 250, 250);
        int[][] good = {{0, 250}, {500, 250}, {250, 0}, {250, 500}, {0, 0}, {500, 500}};
        for (int[] place : good) {
            PenArm arm = played(scene);
            due("point", arm.point(0, place[0], place[1]), 2);
            duePoints(arm, 0, 250, 250, place[0], place[1]);
        }
        int[][] bad = {{-1, 250}, {501, 250}, {250, -1}, {250, 501}, {-1, -1}, {501, 501}};
        for (int[] place : bad) {
            refused("point " + place[0] + " " + place[1], scene,
                    arm -> arm.point(0, place[0], place[1]));
        }
        for (int far : FAR) {
            refused("x " + far, scene, arm -> arm.point(0, far, 1));
            refused("y " + far, scene, arm -> arm.point(0, 1, far));
        }
    }

    private static void wayOfTwo() {
        sentence("the WAY of two is the greater of how far x and how far y are apart");
        int[][] nine = {{13, 29}, {19, 23}, {1, 17}, {7, 11}, {19, 17}, {1, 23}, {13, 11}, {7, 29},
            {19, 29}, {1, 11}, {10, 29}, {19, 20}};
        for (int[] end : nine) {
            due("drawn", drawing(10, 20, end[0], end[1]).ticks(0, 0), 18);
        }
        due("the shortest", drawing(10, 20, 11, 21).ticks(0, 0), 2);
        due("the longest", drawing(0, 0, 500, 500).ticks(0, 0), 1000);
        due("the longest", drawing(500, 0, 0, 500).ticks(0, 1), 1000);
        due("in the air, x", drawing(9, 4, 50, 50).planned(0, 3), 30 + 9 + 5);
        due("in the air, y", drawing(4, 9, 50, 50).planned(0, 3), 30 + 9 + 5);
        due("in the air, the longest", drawing(500, 499, 499, 500).planned(0, 3), 30 + 500 + 5);
    }

    private static void eight(PenArm arm) {
        for (int s = 0; s < 8; s++) {
            line(arm, s % 4, s, 10 * s, 0, 10 * s + 5, 0);
        }
    }

    private static void eightStrokes() {
        sentence("STROKES 0, 1, .. (8 at most)");
        PenArm arm = new PenArm();
        for (int s = 0; s < 8; s++) {
            due("there is none yet", arm.told(s, 0), NONE);
            due("stroke", arm.stroke(1, 2), s);
            due("strokes", arm.count(0), s + 1);
        }
        refused("a ninth", TermsTest::eight, it -> it.stroke(0, 0));
        Calls allDrawn = it -> {
            eight(it);
            it.start();
            it.step(10000);
        };
        due("all drawn", played(allDrawn).count(1), 0);
        refused("a ninth, though none is left", allDrawn, it -> it.stroke(0, 0));
        PenArm anew = played(allDrawn);
        anew.clear();
        due("room again", anew.stroke(0, 0), 0);
    }

    private static void twelve(PenArm arm) {
        arm.stroke(0, 0);
        for (int i = 1; i <= 12; i++) {
            due("point", arm.point(0, 10 * i, i % 2), i);
        }
    }

    private static void twoToTwelvePoints() {
        sentence("rows of POINTS, 2 to 12");
        PenArm arm = new PenArm();
        arm.stroke(0, 0);
        due("none: no plan", arm.plan(), NONE);
        arm.point(0, 10, 0);
        due("one: no plan", arm.plan(), NONE);
        arm.point(0, 20, 0);
        due("two: a plan", arm.plan(), 45 + 20 + 5);
        PenArm full = played(TermsTest::twelve);
        due("twelve", full.told(0, 2), 12);
        due("of twelve", full.plan(), 45 + 220 + 30 + 5);
        refused("a thirteenth", TermsTest::twelve, it -> it.point(0, 200, 200));
        refused("a thirteenth that is the first one", TermsTest::twelve, it -> it.point(0, 10, 1));
    }

    private static void otherThanTheOneAhead() {
        sentence("each other than the one ahead of it");
        Calls scene = arm -> line(arm, 0, 0, 5, 6, 7, 8);
        refused("alike", scene, arm -> arm.point(0, 7, 8));
        refused("alike, at the very first", arm -> line(arm, 0, 0, 0, 0), arm -> arm.point(0, 0, 0));
        refused("alike, at the far corner", arm -> line(arm, 0, 0, 500, 500),
                arm -> arm.point(0, 500, 500));
        due("x alone is another one", played(scene).point(0, 9, 8), 3);
        due("y alone is another one", played(scene).point(0, 7, 9), 3);
        due("x and y changed round", played(scene).point(0, 8, 7), 3);
        due("like the one ahead of that", played(scene).point(0, 5, 6), 3);
        PenArm arm = played(scene);
        arm.stroke(0, 0);
        due("like the last one of another stroke", arm.point(1, 7, 8), 1);
        due("like where the arm is", drawing(0, 0).told(0, 2), 1);
    }

    private static void pens() {
        sentence("a pen 0 .. 3");
        for (int pen = 0; pen <= 3; pen++) {
            PenArm arm = new PenArm();
            due("stroke", arm.stroke(pen, 0), 0);
            due("its pen", arm.told(0, 0), pen);
        }
        Calls scene = arm -> line(arm, 0, 0, 1, 1, 2, 2);
        refused("pen -1", scene, arm -> arm.stroke(-1, 0));
        refused("pen 4", scene, arm -> arm.stroke(4, 0));
        for (int far : FAR) {
            refused("pen " + far, scene, arm -> arm.stroke(far, 0));
        }
    }

    private static void wets() {
        sentence("ticks that it is WET (0 .. 1,000)");
        for (int wet : new int[] {0, 1, 999, 1000}) {
            PenArm arm = new PenArm();
            due("stroke", arm.stroke(0, wet), 0);
            due("it is wet", arm.told(0, 1), wet);
        }
        Calls scene = arm -> line(arm, 0, 0, 1, 1, 2, 2);
        refused("wet -1", scene, arm -> arm.stroke(0, -1));
        refused("wet 1001", scene, arm -> arm.stroke(0, 1001));
        for (int far : FAR) {
            refused("wet " + far, scene, arm -> arm.stroke(0, far));
        }
    }

    private static void closedOnes() {
        sentence("CLOSED is one of at least 4 POINTS whose last POINT is its first one");
        due("no points", played(arm -> arm.stroke(0, 0)).told(0, 3), 0);
        due("one point", drawing(5, 5).told(0, 3), 0);
        due("there and back", drawing(5, 5, 9, 5, 5, 5).told(0, 3), 0);
        due("there and back: two beginnings", drawing(5, 5, 9, 5, 5, 5).ticks(0, 2), NONE);
        due("four", drawing(5, 5, 9, 5, 9, 9, 5, 5).told(0, 3), 1);
        due("four, another last one", drawing(5, 5, 9, 5, 9, 9, 5, 9).told(0, 3), 0);
        due("like it in x alone", drawing(5, 5, 9, 5, 9, 9, 5, 6).told(0, 3), 0);
        due("like it in y alone", drawing(5, 5, 9, 5, 9, 9, 6, 5).told(0, 3), 0);
        due("like its second one", drawing(5, 5, 9, 5, 9, 9, 9, 5).told(0, 3), 0);
        PenArm arm = drawing(5, 5, 9, 5, 5, 5, 9, 5);
        due("there, back and there", arm.told(0, 3), 0);
        arm.point(0, 5, 5);
        due("twice there and back", arm.told(0, 3), 1);
        due("corners that are opposite", arm.ticks(0, 3), 4 * 8 + 3 * 3);
        arm.point(0, 6, 6);
        due("closed no more", arm.told(0, 3), 0);
        arm.point(0, 5, 5);
        due("closed again", arm.told(0, 3), 1);
        PenArm twelve = drawing(1, 1, 2, 9, 3, 1, 4, 9, 5, 1, 6, 9, 7, 1, 8, 9, 9, 1, 10, 9, 11, 1);
        due("eleven", twelve.told(0, 3), 0);
        twelve.point(0, 1, 1);
        due("twelve", twelve.told(0, 3), 1);
    }

    private static PenArm cornered() {
        return drawing(7, 0, 17, 0, 17, 10);
    }

    private static void pricesAtFirst() {
        sentence("PRICES: drawing 2, air 1, LIFT 5, CHANGED 30, CORNER 3 at first");
        due("drawing and corner", cornered().ticks(0, 0), 20 * 2 + 3);
        due("to begin", cornered().planned(0, 3), 30 + 7 + 5);
        due("in all", cornered().plan(), 30 + 7 + 5 + 43 + 5);
        int[] ones = {20, 7, 2, 1, 1};
        int[] first = {2, 1, 5, 30, 3};
        for (int which = 0; which < 5; which++) {
            PenArm arm = cornered();
            due("one more", arm.price(which, first[which] + 1), true);
            due("one more of " + which, arm.plan(), 90 + ones[which]);
        }
    }

    private static void boundsOfPrices() {
        sentence("drawing 1 .. 9, air 1 .. 9, LIFT 0 .. 99, CHANGED 0 .. 999, CORNER 0 .. 99");
        int[] low = {1, 1, 0, 0, 0};
        int[] high = {9, 9, 99, 999, 99};
        int[] first = {2, 1, 5, 30, 3};
        int[] ones = {20, 7, 2, 1, 1};
        Calls scene = arm -> line(arm, 0, 0, 7, 0, 17, 0, 17, 10);
        for (int which = 0; which < 5; which++) {
            int it = which;
            for (int ticks : new int[] {low[which], low[which] + 1, high[which] - 1, high[which]}) {
                PenArm arm = cornered();
                due("price " + which + " of " + ticks, arm.price(which, ticks), true);
                due("in all", arm.plan(), 90 + ones[which] * (ticks - first[which]));
            }
            denied("below " + which, scene, arm -> arm.price(it, low[it] - 1));
            denied("above " + which, scene, arm -> arm.price(it, high[it] + 1));
            for (int far : FAR) {
                denied("far " + which, scene, arm -> arm.price(it, far));
            }
        }
    }

    private static void beginnings() {
        sentence("BEGINNINGS: not CLOSED 0 and 1; CLOSED 0 .. its POINTS less 2");
        int[] row = {1, 1, 2, 9, 3, 1, 4, 9, 5, 1, 6, 9, 7, 1, 8, 9, 9, 1, 10, 9, 11, 1, 0, 0};
        for (int many = 0; many <= 12; many++) {
            PenArm open = drawing(java.util.Arrays.copyOf(row, 2 * many));
            dueBeginnings("open, of " + many, open, many < 2 ? 0 : 2);
            if (many >= 4) {
                int[] round = java.util.Arrays.copyOf(row, 2 * many);
                round[2 * many - 2] = 1;
                round[2 * many - 1] = 1;
                dueBeginnings("closed, of " + many, drawing(round), many - 1);
            }
        }
    }

    private static void dueBeginnings(String what, PenArm arm, int many) {
        for (int b = -2; b <= 14; b++) {
            due(what + ", from " + b, arm.ticks(0, b) != NONE, b >= 0 && b < many);
        }
        for (int far : FAR) {
            due(what + ", from " + far, arm.ticks(0, far), NONE);
        }
    }

    private static void openFromBothEnds() {
        sentence("not CLOSED from its first POINT on (b 0), or from its last one back (b 1)");
        PenArm forth = drawing(3, 0, 20, 0, 20, 30);
        due("near its first", forth.planned(0, 1), 0);
        forth.start();
        forth.step(30 + 3 + 5 + 2);
        dueArm(forth, 4, 0, 0, 1);
        forth.jam();
        duePoints(forth, 0, 3, 0, 20, 0, 20, 30);
        PenArm back = drawing(20, 30, 20, 0, 3, 0);
        due("near its last", back.planned(0, 1), 1);
        back.start();
        back.step(30 + 3 + 5 + 2);
        dueArm(back, 4, 0, 0, 1);
        back.jam();
        duePoints(back, 0, 3, 0, 20, 0, 20, 30);
    }

    private static void closedRound() {
        sentence("a CLOSED one from POINT b on, forward and round to that");
        int[][] ring = {{10, 10}, {10, 20}, {20, 20}, {20, 10}};
        for (int b = 0; b < 4; b++) {
            PenArm arm = new PenArm();
            arm.stroke(0, 0);
            for (int i = 0; i <= 4; i++) {
                int[] place = ring[(i - b + 4) % 4];
                arm.point(0, place[0], place[1]);
            }
            due("begun at the nearest", arm.planned(0, 1), b);
            arm.start();
            int[][] passes = {{45, 10, 10}, {20, 10, 20}, {23, 20, 20}, {23, 20, 10}, {22, 11, 10}};
            for (int[] pass : passes) {
                arm.step(pass[0]);
                dueArm(arm, pass[1], pass[2], 0, 1);
            }
            arm.step(1);
            due("round to where it began: drawn", arm.told(0, 4), 0);
            dueArm(arm, 10, 10, 0, 1);
        }
    }

    private static void ticksOfPieces() {
        sentence("TICKS: for each piece from POINT to POINT WAY times drawing");
        PenArm arm = drawing(0, 0, 10, 0, 30, 0, 60, 0);
        due("three pieces", arm.ticks(0, 0), 120);
        arm.price(0, 7);
        due("at another price", arm.ticks(0, 1), 420);
        PenArm longest = new PenArm();
        longest.stroke(0, 0);
        for (int i = 0; i < 12; i++) {
            longest.point(0, i % 2 * 500, 0);
        }
        longest.price(0, 9);
        longest.price(4, 99);
        due("the longest and dearest", longest.ticks(0, 0), 11 * 500 * 9 + 10 * 99);
        due("back", longest.ticks(0, 1), 11 * 500 * 9 + 10 * 99);
    }

    private static int cornersOf(int... places) {
        PenArm arm = drawing(places);
        int with = arm.ticks(0, 0);
        due("back as forth", arm.ticks(0, 1), with);
        arm.price(4, 0);
        return (with - arm.ticks(0, 0)) / 3;
    }

    private static void corners() {
        sentence("CORNER: a cross product that is not 0, or opposite");
        due("in one line onward", cornersOf(0, 0, 10, 0, 30, 0), 0);
        due("up", cornersOf(9, 10, 9, 11, 9, 500), 0);
        due("backward", cornersOf(90, 5, 60, 5, 59, 5), 0);
        due("slanted, not alike long", cornersOf(0, 0, 2, 4, 3, 6), 0);
        due("slanted, down", cornersOf(100, 100, 98, 97, 92, 88), 0);
        due("a cross product of 1", cornersOf(0, 0, 250, 249, 499, 497), 1);
        due("a cross product of -1", cornersOf(0, 0, 249, 248, 499, 497), 1);
        due("from along x to slanted", cornersOf(0, 0, 1, 0, 500, 1), 1);
        due("to the left", cornersOf(0, 0, 5, 0, 5, 5), 1);
        due("to the right", cornersOf(0, 5, 5, 5, 5, 0), 1);
        due("more than square", cornersOf(0, 0, 9, 0, 1, 1), 1);
        due("opposite, all the way", cornersOf(4, 4, 9, 9, 4, 4), 1);
        due("opposite, a part of it", cornersOf(0, 0, 9, 0, 8, 0), 1);
        due("opposite, beyond", cornersOf(5, 0, 9, 0, 0, 0), 1);
        due("opposite, along y", cornersOf(0, 5, 0, 9, 0, 0), 1);
        due("opposite, the shortest", cornersOf(0, 0, 1, 0, 0, 0), 1);
        due("opposite, the shortest, up", cornersOf(3, 4, 3, 3, 3, 4), 1);
        due("opposite, slanted", cornersOf(10, 20, 13, 26, 12, 24), 1);
        due("the greatest cross product", cornersOf(0, 0, 500, 0, 0, 500), 1);
        due("the greatest that are in line", cornersOf(0, 500, 250, 250, 500, 0), 0);
        due("the greatest that are opposite", cornersOf(0, 500, 500, 0, 0, 500), 1);
    }

    private static void cornersBetweenPieces() {
        sentence("CORNER for each POINT between two pieces, as it is drawn");
        due("one piece has none", cornersOf(5, 5, 9, 9), 0);
        due("each of them", cornersOf(0, 0, 5, 0, 5, 5, 9, 5, 12, 5, 12, 4), 3);
        PenArm arm = drawing(10, 0, 20, 0, 20, 20, 0, 20, 0, 0, 10, 0);
        due("closed, begun in a straight line", arm.ticks(0, 0), 160 + 4 * 3);
        for (int b = 1; b <= 4; b++) {
            due("closed, begun in a corner", arm.ticks(0, b), 160 + 3 * 3);
        }
    }

    private static void armAtFirst() {
        sentence("The arm is at a POINT (0, 0 at first), up, with no pen (NONE)");
        dueArm(new PenArm(), 0, 0, NONE, 0);
        PenArm arm = drawing(0, 0, 0, 9);
        due("it changes its pen and is lowered, even there", arm.planned(0, 3), 30 + 5);
    }

    /** The ticks to begin a second stroke, behind one of pen 0 from 0, 0 to 10, 0. */
    private static int toBegin(int pen, int... places) {
        PenArm arm = drawing(0, 0, 10, 0);
        line(arm, pen, 0, places);
        arm.over(1, 0, true);
        arm.price(1, 3);
        arm.price(2, 7);
        arm.price(3, 50);
        due("first from its first", arm.planned(0, 1), 0);
        return arm.planned(1, 3);
    }

    private static void beginning() {
        sentence("if the arm is down there with that pen: nothing; else, if it is down, LIFT; "
                + "if the pen is another one CHANGED; WAY times air; LIFT");
        due("down there with that pen", toBegin(0, 10, 0, 20, 0), 0);
        due("from its last, likewise", toBegin(0, 20, 0, 10, 0), 0);
        due("down there with another pen", toBegin(1, 10, 0, 20, 0), 7 + 50 + 7);
        due("with that pen, another x", toBegin(0, 11, 0, 20, 0), 7 + 3 + 7);
        due("with that pen, another y", toBegin(0, 10, 1, 10, 9), 7 + 3 + 7);
        due("neither there nor that pen", toBegin(3, 12, 1, 20, 0), 7 + 50 + 6 + 7);
    }

    private static void beginningFromTheAir() {
        sentence("from where the arm is (up, with the pen that it has)");
        Calls scene = arm -> {
            line(arm, 2, 0, 0, 0, 10, 0);
            arm.start();
            arm.step(10000);
        };
        int[][] rows = {{2, 10, 0, 5}, {1, 10, 0, 35}, {2, 10, 4, 9}, {3, 13, 0, 38}};
        for (int[] row : rows) {
            PenArm arm = played(scene);
            line(arm, row[0], 0, row[1], row[2], 50, 50);
            due("to begin", arm.planned(0, 3), row[3]);
        }
    }

    private static void liftedBehindTheLast() {
        sentence("Behind the last STROKE the arm is lifted: LIFT (if any was drawn)");
        for (int lift : new int[] {0, 1, 99}) {
            PenArm arm = drawing(0, 0, 10, 0);
            arm.price(2, lift);
            due("lowered and lifted", arm.plan(), 30 + lift + 20 + lift);
            line(arm, 0, 0, 10, 0, 10, 10);
            due("but once", arm.plan(), 30 + lift + 40 + lift);
            PenArm none = new PenArm();
            none.price(2, lift);
            due("nothing drawn", none.plan(), 0);
        }
    }

    private static void behindThoseLeft() {
        sentence("each comes behind those LEFT that it is OVER");
        PenArm arm = drawing(0, 0, 10, 0);
        line(arm, 0, 0, 10, 0, 20, 0);
        duePlan(arm, 35 + 40 + 5, 0, 0, 1, 0);
        arm.over(0, 1, true);
        duePlan(arm, 55 + 40 + 5, 1, 1, 0, 1);
        arm.over(0, 1, false);
        arm.over(1, 0, true);
        duePlan(arm, 35 + 40 + 5, 0, 0, 1, 0);

        PenArm drawn = drawing(0, 0, 10, 0);
        drawn.start();
        drawn.step(10000);
        line(drawn, 0, 0, 10, 0, 20, 0);
        drawn.over(1, 0, true);
        duePlan(drawn, 5 + 20 + 5, 1, 0);
        PenArm eight = new PenArm();
        eight(eight);
        for (int s = 0; s < 7; s++) {
            eight.over(s, s + 1, true);
        }
        for (int i = 0; i < 8; i++) {
            due("the last number first", eight.planned(i, 0), 7 - i);
        }
    }

    private static void leastSum() {
        sentence("one with the least sum of ticks");
        int[] places = {3, 0, 6, 1, 7, 2, 5, 4};
        PenArm arm = new PenArm();
        for (int place : places) {
            line(arm, 0, 0, 50 * place + 10, 0, 50 * place + 20, 0);
        }
        duePlan(arm, 45 + 8 * 20 + 7 * 50 + 5, 1, 0, 3, 0, 5, 0, 0, 0, 7, 0, 6, 0, 2, 0, 4, 0);
        PenArm pens = drawing(10, 0, 20, 0);
        line(pens, 1, 0, 20, 0, 30, 0);
        line(pens, 0, 0, 35, 0, 45, 0);
        duePlan(pens, 45 + 20 + 25 + 20 + 55 + 20 + 5, 0, 0, 2, 0, 1, 1);
        pens.price(3, 0);
        duePlan(pens, 15 + 20 + 10 + 20 + 15 + 20 + 5, 0, 0, 1, 0, 2, 0);
    }

    private static void fromWhereTheArmIs() {
        sentence("from where the arm is: behind a JAM in the air too");
        PenArm arm = drawing(100, 0, 0, 90);
        due("nearer its last", arm.planned(0, 1), 1);
        arm.start();
        arm.step(30 + 60);
        arm.jam();
        dueArm(arm, 0, 60, 0, 0);
        duePlan(arm, 30 + 5 + 200 + 5, 0, 1);
        line(arm, 1, 0, 0, 60, 90, 0);
        arm.over(0, 1, true);
        due("another pen is another one", arm.planned(0, 3), 35);
    }

    private static void lowerStrokeOfSeveral() {
        sentence("of several the one with the lower STROKE");
        PenArm arm = drawing(0, 10, 0, 20);
        line(arm, 0, 0, 10, 0, 20, 0);
        duePlan(arm, 120, 0, 0, 1, 0);
        PenArm other = drawing(10, 0, 20, 0);
        line(other, 0, 0, 0, 10, 0, 20);
        duePlan(other, 120, 0, 0, 1, 0);
    }

    private static void lowerBeginningOfSeveral() {
        sentence("then the lower BEGINNING");
        duePlan(drawing(10, 0, 10, 10), 70, 0, 0);
        duePlan(drawing(10, 10, 10, 0), 70, 0, 0);
        int[][] ring = {{10, 0}, {10, 10}, {20, 10}, {20, 0}};
        int[] lowest = {0, 1, 2, 0};
        for (int first = 0; first < 4; first++) {
            PenArm arm = new PenArm();
            arm.stroke(0, 0);
            for (int i = 0; i <= 4; i++) {
                int[] place = ring[(i - first + 4) % 4];
                arm.point(0, place[0], place[1]);
            }
            duePlan(arm, 45 + 89 + 5, 0, lowest[first]);
        }
    }

    private static void whereTheyFirstDiffer() {
        sentence("the lower STROKE, then the lower BEGINNING, where they first differ");
        PenArm arm = drawing(50, 0, 0, 0);
        line(arm, 0, 0, 0, 0, 50, 0);
        duePlan(arm, 35 + 200 + 5, 0, 1, 1, 1);
        PenArm fork = drawing(10, 0, 0, 10);
        line(fork, 0, 0, 10, 0, 30, 0);
        line(fork, 0, 0, 0, 10, 0, 30);
        fork.over(1, 0, true);
        fork.over(2, 0, true);
        duePlan(fork, 190, 0, 0, 2, 0, 1, 0);
    }

    private static void overGoesRound() {
        sentence("There is none if OVER goes round");
        for (int many = 2; many <= 8; many++) {
            PenArm arm = new PenArm();
            eight(arm);
            for (int s = 0; s + 1 < many; s++) {
                arm.over(s, s + 1, true);
            }
            int sum = arm.plan();
            due("a chain is not round", sum > 0, true);
            arm.over(many - 1, 0, true);
            duePlan(arm, NONE);
            due("no start", arm.start(), false);
            arm.over(0, 1, false);
            due("round no more", arm.plan() > 0, true);
        }
    }

    private static void overGoesRoundAmongThoseLeft() {
        sentence("OVER goes round (of those LEFT)");
        PenArm arm = drawing(0, 0, 10, 0);
        arm.start();
        arm.step(10000);
        line(arm, 0, 0, 10, 0, 20, 0);
        line(arm, 0, 0, 20, 0, 30, 0);
        arm.over(0, 1, true);
        arm.over(1, 2, true);
        arm.over(2, 0, true);
        duePlan(arm, 25 + 40 + 5, 2, 1, 1, 1);
    }

    private static void fullestPlan() {
        sentence("8 STROKES of 12 POINTS, each CLOSED");
        int[] ring = {100, 100, 110, 300, 120, 100, 130, 300, 140, 100, 150, 300, 160, 100, 170, 300,
            180, 100, 300, 5, 5, 5, 100, 100};
        PenArm arm = new PenArm();
        for (int s = 0; s < 8; s++) {
            line(arm, 3, 0, ring);
            due("ticks", arm.ticks(s, 10), 4250);
        }
        duePlan(arm, 40 + 8 * 4250 + 5,
                0, 10, 1, 10, 2, 10, 3, 10, 4, 10, 5, 10, 6, 10, 7, 10);
        due("start", arm.start(), true);
        for (int i = 0; i < 3; i++) {
            due("step", arm.step(10000), 10000);
        }
        due("all the rest", arm.step(10000), 4045);
        due("all drawn", arm.count(1), 0);
    }
}
