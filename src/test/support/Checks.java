import java.util.NoSuchElementException;

/**
 * What the tests by hand share: answers that are due, each under the document's sentence that asks
 * for it, and that a refused call changes nothing.
 */
abstract class Checks {
    static final int NONE = PenArm.NONE;
    /** Numbers that are far from every bound. */
    static final int[] FAR = {Integer.MIN_VALUE, Integer.MIN_VALUE + 1, -1000000, 1000000,
            Integer.MAX_VALUE - 1, Integer.MAX_VALUE};
    private static int wrong = 0;
    private static String sentence = "";

    /** Calls that bring an arm somewhere. */
    interface Calls {
        void on(PenArm arm);
    }

    interface Answer {
        int of(PenArm arm);
    }

    interface Verdict {
        boolean of(PenArm arm);
    }

    static void sentence(String text) {
        sentence = text;
    }

    static void due(String call, long got, long want) {
        if (got != want) {
            wrong++;
            System.out.println(sentence + ": " + call + " answered " + got + ", due is " + want);
        }
    }

    static void due(String call, boolean got, boolean want) {
        due(call, got ? 1 : 0, want ? 1 : 0);
    }

    static void finish(String good) {
        if (wrong != 0) {
            System.out.println(wrong + " answers are not as due");
            System.exit(1);
        }
        System.out.println(good);
    }

    static int line(PenArm arm, int pen, int wet, int... places) {
        int stroke = arm.stroke(pen, wet);
        for (int i = 0; i + 1 < places.length; i += 2) {
            due("point", arm.point(stroke, places[i], places[i + 1]), i / 2 + 1);
        }
        return stroke;
    }

    static PenArm drawing(int... places) {
        PenArm arm = new PenArm();
        line(arm, 0, 0, places);
        return arm;
    }

    static int touchOf(int[] one, int[] other) {
        PenArm arm = new PenArm();
        line(arm, 0, 0, one);
        line(arm, 0, 0, other);
        due("both ways", arm.touch(1, 0), arm.touch(0, 1));
        return arm.touch(0, 1);
    }

    static PenArm played(Calls scene) {
        PenArm arm = new PenArm();
        scene.on(arm);
        return arm;
    }

    static void dueArm(PenArm arm, int x, int y, int pen, int down) {
        due("arm(0)", arm.arm(0), x);
        due("arm(1)", arm.arm(1), y);
        due("arm(2)", arm.arm(2), pen);
        due("arm(3)", arm.arm(3), down);
    }

    static void duePoints(PenArm arm, int stroke, int... places) {
        due("told(" + stroke + ", 2)", arm.told(stroke, 2), places.length / 2);
        for (int i = 0; i + 1 < places.length && i / 2 < arm.told(stroke, 2); i += 2) {
            due("at x " + i / 2, arm.at(stroke, i / 2, false), places[i]);
            due("at y " + i / 2, arm.at(stroke, i / 2, true), places[i + 1]);
        }
    }

    /** The strokes and beginnings of the plan, in its order, and no more of them. */
    static void duePlan(PenArm arm, int sum, int... rows) {
        due("plan", arm.plan(), sum);
        for (int i = 0; i + 1 < rows.length; i += 2) {
            due("planned(" + i / 2 + ", 0)", arm.planned(i / 2, 0), rows[i]);
            due("planned(" + i / 2 + ", 1)", arm.planned(i / 2, 1), rows[i + 1]);
        }
        due("no more planned", arm.planned(rows.length / 2, 0), NONE);
    }

    static boolean hasNone(PenArm arm, int stroke, int i) {
        return throwsIt(arm, stroke, i, false) && throwsIt(arm, stroke, i, true);
    }

    static boolean throwsIt(PenArm arm, int stroke, int i, boolean y) {
        try {
            arm.at(stroke, i, y);
        } catch (NoSuchElementException e) {
            return e.getClass() == NoSuchElementException.class;
        }
        return false;
    }

    /** The call answers NONE, and all is then, and goes on, as if it had not been made. */
    static void refused(String name, Calls scene, Answer call) {
        due(name, call.of(played(scene)), NONE);
        unchanged(name, scene, call::of);
    }

    /** As refused, of a call that answers false. */
    static void denied(String name, Calls scene, Verdict call) {
        due(name, call.of(played(scene)), false);
        unchanged(name, scene, call::of);
    }

    static void unchanged(String name, Calls scene, Calls call) {
        String without = story(scene, arm -> { });
        String with = story(scene, call);
        due(name + " changes nothing", with.equals(without), true);
    }

    /** Each part has an arm of its own: none is used for more than 512 calls. */
    private static String story(Calls scene, Calls call) {
        StringBuilder text = new StringBuilder();
        for (int part = 0; part < 4; part++) {
            PenArm arm = played(scene);
            call.on(arm);
            if (part == 0) {
                tellAll(arm, text);
            } else if (part == 1) {
                tellPoints(arm, text);
            } else if (part == 2) {
                arm.step(11);
                arm.jam();
                tellRest(arm, text);
            } else {
                tellRest(arm, text);
            }
        }
        return text.toString();
    }

    private static void tell(StringBuilder text, int answer) {
        text.append(answer).append(' ');
    }

    private static void tellAll(PenArm arm, StringBuilder text) {
        tellArm(arm, text);
        for (int what = 0; what < 5; what++) {
            tell(text, arm.count(what));
        }
        for (int i = 0; i < 8; i++) {
            for (int what = 0; what < 4; what++) {
                tell(text, arm.planned(i, what));
            }
            for (int what = 0; what < 6; what++) {
                tell(text, arm.told(i, what));
            }
            for (int beginning = 0; beginning < 12; beginning++) {
                tell(text, arm.ticks(i, beginning));
            }
            for (int other = i; other < 8; other++) {
                tell(text, arm.touch(i, other));
            }
        }
    }

    private static void tellArm(PenArm arm, StringBuilder text) {
        tell(text, arm.plan());
        for (int what = 0; what < 9; what++) {
            tell(text, arm.arm(what));
        }
    }

    private static void tellPoints(PenArm arm, StringBuilder text) {
        for (int s = 0; s < 8; s++) {
            for (int i = 0; i < arm.told(s, 2); i++) {
                tell(text, arm.at(s, i, false));
                tell(text, arm.at(s, i, true));
            }
        }
    }

    /** The run is gone on with; then what was hidden shows as points, strokes and a run are added. */
    private static void tellRest(PenArm arm, StringBuilder text) {
        for (int i = 0; i < 4; i++) {
            tell(text, arm.step(i < 3 ? 17 : 10000));
            tellArm(arm, text);
        }
        tell(text, arm.point(arm.count(0) - 1, 499, 3));
        tell(text, arm.stroke(3, 1));
        int latest = arm.count(0) - 1;
        tell(text, arm.point(latest, 300, 7));
        tell(text, arm.point(latest, 310, 9));
        tell(text, arm.point(latest, 300, 9));
        for (int s = 1; s <= latest; s++) {
            tell(text, arm.over(s, s - 1, false) ? 1 : 0);
        }
        tell(text, arm.start() ? 1 : 0);
        for (int i = 0; i < 4; i++) {
            tell(text, arm.step(i < 3 ? 31 : 10000));
            tellArm(arm, text);
        }
        tell(text, arm.count(3));
        tell(text, arm.count(4));
    }
}
