import java.util.ArrayList;
import java.util.List;
import java.util.NoSuchElementException;
import java.util.Random;

/**
 * Long runs of calls, always the same ones, on the arm and on a model that is written another way:
 * it tries every order, and lists where the arm is behind each single tick.
 */
public final class ModelTest {
    private static final int NONE = -1;
    private static int wrong = 0;

    public static void main(String[] args) {
        for (int seed = 0; seed < 500 && wrong == 0; seed++) {
            oneRun(seed, 3 + seed % 3, 400);
        }
        for (int seed = 10000; seed < 10020 && wrong == 0; seed++) {
            oneRun(seed, 8, 150);
        }
        if (wrong != 0) {
            System.exit(1);
        }
        System.out.println("the arm answers as the model does");
    }

    private static void oneRun(int seed, int strokes, int calls) {
        Random random = new Random(seed);
        int[] spans = {4, 6, 12, 40, 500};
        Player player = new Player(random, strokes, 1 + spans[random.nextInt(spans.length)]);
        for (int i = 0; i < calls; i++) {
            player.oneCall();
            String fault = player.difference();
            if (fault != null) {
                wrong++;
                System.out.println("seed " + seed + ", call " + i + " " + player.last + ": " + fault);
                for (String call : player.calls) {
                    System.out.println("  " + call);
                }
                return;
            }
        }
    }

    /** Makes the same calls on both and tells where they answer differently. */
    private static final class Player {
        final Random random;
        final int strokes;
        final int span;
        final PenArm arm = new PenArm();
        final Model model = new Model();
        final List<String> calls = new ArrayList<>();
        String last = "";
        String fault;

        Player(Random random, int strokes, int span) {
            this.random = random;
            this.strokes = strokes;
            this.span = span;
        }

        void same(String call, long got, long want) {
            last = call;
            if (got != want && fault == null) {
                fault = call + " answered " + got + ", the model " + want;
            }
        }

        void done(String call, long got, long want) {
            calls.add(call + " = " + want);
            same(call, got, want);
        }

        void oneCall() {
            int kind = random.nextInt(100);
            if (random.nextInt(12) == 0) {
                edgeCall();
            } else if (model.timeline != null) {
                runCall(kind);
            } else if (kind < 12 && model.strokes.size() < strokes) {
                int pen = random.nextInt(3);
                int wet = random.nextBoolean() ? 0 : random.nextInt(200);
                done("stroke(" + pen + ", " + wet + ")", arm.stroke(pen, wet), model.stroke(pen, wet));
            } else if (kind < 60) {
                pointCall();
            } else if (kind < 68) {
                int one = random.nextInt(9) - 1;
                int other = random.nextInt(9) - 1;
                boolean is = random.nextInt(3) == 0;
                done("over(" + one + ", " + other + ", " + is + ")",
                        arm.over(one, other, is) ? 1 : 0, model.over(one, other, is) ? 1 : 0);
            } else if (kind < 74) {
                int which = random.nextInt(7) - 1;
                int[] some = {0, 0, 1, 2, 3, 5, 9, 30, 99, 100};
                int ticks = some[random.nextInt(some.length)];
                done("price(" + which + ", " + ticks + ")",
                        arm.price(which, ticks) ? 1 : 0, model.price(which, ticks) ? 1 : 0);
            } else if (kind < 75) {
                done("clear()", arm.clear() ? 1 : 0, model.clear() ? 1 : 0);
            } else {
                done("start()", arm.start() ? 1 : 0, model.start() ? 1 : 0);
            }
        }

        private int edge(int... most) {
            int far = random.nextBoolean() ? Integer.MIN_VALUE : Integer.MAX_VALUE;
            int last = most[random.nextInt(most.length)];
            int[] some = {-1, 0, last, last + 1, far, random.nextInt(last + 1)};
            return some[random.nextInt(some.length)];
        }

        /** At bounds and beyond them, whatever goes on. */
        private void edgeCall() {
            switch (random.nextInt(6)) {
                case 0: {
                    int pen = edge(3);
                    int wet = edge(1000);
                    boolean room = pen < 0 || pen > 3 || model.strokes.size() < strokes;
                    wet = room ? wet : 1001;
                    done("stroke(" + pen + ", " + wet + ")",
                            arm.stroke(pen, wet), model.stroke(pen, wet));
                    return;
                }
                case 1: {
                    int stroke = random.nextBoolean() ? edge(7) : model.strokes.size() - 1;
                    int x = edge(span - 1, 500);
                    int y = edge(span - 1, 500);
                    done("point(" + stroke + ", " + x + ", " + y + ")",
                            arm.point(stroke, x, y), model.point(stroke, x, y));
                    return;
                }
                case 2: {
                    int one = edge(7);
                    int other = edge(7);
                    boolean is = random.nextBoolean();
                    done("over(" + one + ", " + other + ", " + is + ")",
                            arm.over(one, other, is) ? 1 : 0, model.over(one, other, is) ? 1 : 0);
                    return;
                }
                case 3: {
                    int which = edge(4);
                    int ticks = edge(9, 99, 999);
                    done("price(" + which + ", " + ticks + ")",
                            arm.price(which, ticks) ? 1 : 0, model.price(which, ticks) ? 1 : 0);
                    return;
                }
                case 4: {
                    int n = edge(10000);
                    done("step(" + n + ")", arm.step(n), model.step(n));
                    return;
                }
                default:
                    if (model.timeline == null) {
                        done("jam()", arm.jam() ? 1 : 0, model.jam() ? 1 : 0);
                    } else {
                        done("start()", arm.start() ? 1 : 0, model.start() ? 1 : 0);
                    }
            }
        }

        private void pointCall() {
            int stroke = random.nextInt(10) == 0 ? random.nextInt(10) - 1 : model.strokes.size() - 1;
            int x = random.nextInt(span);
            int y = random.nextInt(span);
            if (random.nextInt(6) == 0 && stroke >= 0 && stroke < model.strokes.size()
                    && !model.strokes.get(stroke).points.isEmpty()) {
                x = model.strokes.get(stroke).points.get(0)[0];
                y = model.strokes.get(stroke).points.get(0)[1];
            }
            done("point(" + stroke + ", " + x + ", " + y + ")",
                    arm.point(stroke, x, y), model.point(stroke, x, y));
        }

        private void runCall(int kind) {
            if (kind < 6) {
                done("jam()", arm.jam() ? 1 : 0, model.jam() ? 1 : 0);
            } else if (kind < 12) {
                done("stroke(0, 0)", arm.stroke(0, 0), NONE);
                done("clear()", arm.clear() ? 1 : 0, 0);
                done("price(0, 1)", arm.price(0, 1) ? 1 : 0, 0);
                done("over(0, 1, true)", arm.over(0, 1, true) ? 1 : 0, 0);
                done("over(0, 1, false)", arm.over(0, 1, false) ? 1 : 0, 0);
                done("start()", arm.start() ? 1 : 0, 0);
                int latest = model.strokes.size() - 1;
                done("point(" + latest + ", 1, 1)", arm.point(latest, 1, 1), NONE);
            } else {
                int n = kind < 80 ? random.nextInt(9) : random.nextInt(60);
                n = kind == 99 ? 10000 : n;
                done("step(" + n + ")", arm.step(n), model.step(n));
            }
        }

        String difference() {
            for (int what = -1; what <= 9; what++) {
                same("arm(" + what + ")", arm.arm(what), model.arm(what));
            }
            for (int what = -1; what <= 5; what++) {
                same("count(" + what + ")", arm.count(what), model.count(what));
            }
            samePlan();
            for (int s = -1; s <= model.strokes.size(); s++) {
                sameStroke(s);
            }
            return fault;
        }

        private void samePlan() {
            same("plan()", arm.plan(), model.plan());
            for (int i = -1; i <= 8; i++) {
                for (int what = -1; what <= 4; what++) {
                    same("planned(" + i + ", " + what + ")",
                            arm.planned(i, what), model.planned(i, what));
                }
            }
        }

        private void sameStroke(int s) {
            for (int what = -1; what <= 6; what++) {
                same("told(" + s + ", " + what + ")", arm.told(s, what), model.told(s, what));
            }
            for (int b = -1; b <= 12; b++) {
                same("ticks(" + s + ", " + b + ")", arm.ticks(s, b), model.ticks(s, b));
            }
            for (int other = -1; other <= model.strokes.size(); other++) {
                same("touch(" + s + ", " + other + ")", arm.touch(s, other), model.touch(s, other));
            }
            for (int i = -1; i <= 12; i++) {
                same("at(" + s + ", " + i + ", false)", place(s, i, false), model.at(s, i, 0));
                same("at(" + s + ", " + i + ", true)", place(s, i, true), model.at(s, i, 1));
            }
        }

        private int place(int s, int i, boolean y) {
            try {
                return arm.at(s, i, y);
            } catch (NoSuchElementException e) {
                return NONE;
            }
        }
    }

    private static final class Line {
        final int pen;
        final int wet;
        List<int[]> points = new ArrayList<>();
        boolean drawn;
        boolean cut;
        int ended = NONE;

        Line(int pen, int wet) {
            this.pen = pen;
            this.wet = wet;
        }

        boolean closed() {
            int n = points.size();
            return !cut && n >= 4 && points.get(0)[0] == points.get(n - 1)[0]
                    && points.get(0)[1] == points.get(n - 1)[1];
        }

        int beginnings() {
            return points.size() < 2 ? 0 : closed() ? points.size() - 1 : 2;
        }

        List<int[]> from(int beginning) {
            List<int[]> way = new ArrayList<>();
            int n = points.size();
            if (closed()) {
                way.addAll(points.subList(beginning, n - 1));
                way.addAll(points.subList(0, beginning + 1));
            } else {
                for (int i = 0; i < n; i++) {
                    way.add(points.get(beginning == 0 ? i : n - 1 - i));
                }
            }
            return way;
        }
    }

    /** How all is behind one tick. */
    private static final class Moment {
        int x;
        int y;
        int pen;
        boolean down;
        int waited;
        int stroke;
        int units;
        int passed;
        int[] ended;

        Moment copy() {
            Moment moment = new Moment();
            moment.x = x;
            moment.y = y;
            moment.pen = pen;
            moment.down = down;
            moment.waited = waited;
            moment.stroke = stroke;
            moment.units = units;
            moment.passed = passed;
            moment.ended = ended.clone();
            return moment;
        }
    }

    private static final class Model {
        List<Line> strokes = new ArrayList<>();
        boolean[][] over = new boolean[8][8];
        int[] prices = {2, 1, 5, 30, 3};
        int x;
        int y;
        int pen = NONE;
        int runs;
        int jams;
        int tick;
        int waited;
        /** Null: no run goes on. */
        List<Moment> timeline;
        private Moment now;
        private boolean known;
        private int sum;
        private List<int[]> rows = new ArrayList<>();
        private int best;
        private List<int[]> bestRows;

        int stroke(int newPen, int wet) {
            if (timeline != null || strokes.size() == 8
                    || newPen < 0 || newPen > 3 || wet < 0 || wet > 1000) {
                return NONE;
            }
            known = false;
            strokes.add(new Line(newPen, wet));
            return strokes.size() - 1;
        }

        int point(int s, int px, int py) {
            if (timeline != null || s < 0 || s != strokes.size() - 1) {
                return NONE;
            }
            if (px < 0 || px > 500 || py < 0 || py > 500) {
                return NONE;
            }
            Line line = strokes.get(s);
            int n = line.points.size();
            if (line.drawn || line.cut || n == 12) {
                return NONE;
            }
            if (n > 0 && line.points.get(n - 1)[0] == px && line.points.get(n - 1)[1] == py) {
                return NONE;
            }
            known = false;
            line.points.add(new int[] {px, py});
            return n + 1;
        }

        boolean is(int s) {
            return s >= 0 && s < strokes.size();
        }

        boolean over(int s, int other, boolean is) {
            if (timeline != null || !is(s) || !is(other) || s == other || over[s][other] == is) {
                return false;
            }
            known = false;
            over[s][other] = is;
            return true;
        }

        boolean price(int which, int ticks) {
            int[] most = {9, 9, 99, 999, 99};
            if (timeline != null || which < 0 || which > 4
                    || ticks < (which < 2 ? 1 : 0) || ticks > most[which]) {
                return false;
            }
            known = false;
            prices[which] = ticks;
            return true;
        }

        boolean clear() {
            if (timeline != null) {
                return false;
            }
            known = false;
            strokes.clear();
            over = new boolean[8][8];
            x = 0;
            y = 0;
            pen = NONE;
            return true;
        }

        static int way(int[] p, int[] q) {
            return Math.max(Math.abs(p[0] - q[0]), Math.abs(p[1] - q[1]));
        }

        int ticks(int s, int b) {
            if (!is(s) || b < 0 || b >= strokes.get(s).beginnings()) {
                return NONE;
            }
            List<int[]> way = strokes.get(s).from(b);
            int total = 0;
            for (int i = 1; i < way.size(); i++) {
                total += way(way.get(i - 1), way.get(i)) * prices[0];
                if (i + 1 < way.size() && corner(way.get(i - 1), way.get(i), way.get(i + 1))) {
                    total += prices[4];
                }
            }
            return total;
        }

        /** Not in one line onward: no positive number makes one direction of the other. */
        static boolean corner(int[] p, int[] q, int[] r) {
            double in = Math.atan2(q[1] - p[1], q[0] - p[0]);
            double out = Math.atan2(r[1] - q[1], r[0] - q[0]);
            return Math.abs(in - out) > 1e-9;
        }

        int touch(int one, int other) {
            if (!is(one) || !is(other)) {
                return NONE;
            }
            List<int[]> a = strokes.get(one).points;
            List<int[]> b = strokes.get(other).points;
            if (a.size() < 2 || b.size() < 2) {
                return NONE;
            }
            for (int i = 1; i < a.size(); i++) {
                for (int j = 1; j < b.size(); j++) {
                    if (meet(a.get(i - 1), a.get(i), b.get(j - 1), b.get(j))) {
                        return 1;
                    }
                }
            }
            return 0;
        }

        /** By the fractions of both ways at which the lines cross. */
        static boolean meet(int[] p, int[] q, int[] r, int[] s) {
            long ux = q[0] - p[0];
            long uy = q[1] - p[1];
            long vx = s[0] - r[0];
            long vy = s[1] - r[1];
            long wx = r[0] - p[0];
            long wy = r[1] - p[1];
            long cross = ux * vy - uy * vx;
            if (cross != 0) {
                long t = (wx * vy - wy * vx) * Long.signum(cross);
                long u = (wx * uy - wy * ux) * Long.signum(cross);
                return t >= 0 && t <= Math.abs(cross) && u >= 0 && u <= Math.abs(cross);
            }
            if (wx * uy != wy * ux) {
                return false;
            }
            long length = ux * ux + uy * uy;
            long a = wx * ux + wy * uy;
            long b = a + vx * ux + vy * uy;
            return Math.max(a, b) >= 0 && Math.min(a, b) <= length;
        }

        void know() {
            if (known || timeline != null) {
                return;
            }
            known = true;
            rows = new ArrayList<>();
            sum = 0;
            int left = 0;
            for (Line line : strokes) {
                if (!line.drawn) {
                    left++;
                    if (line.points.size() < 2) {
                        sum = NONE;
                    }
                }
            }
            if (left == 0 || sum == NONE) {
                return;
            }
            best = Integer.MAX_VALUE;
            bestRows = null;
            boolean[] done = new boolean[strokes.size()];
            for (int s = 0; s < done.length; s++) {
                done[s] = strokes.get(s).drawn;
            }
            search(done, left, new int[] {x, y, pen, 0}, 0, new ArrayList<>());
            sum = bestRows == null ? NONE : best;
            rows = bestRows == null ? new ArrayList<>() : bestRows;
        }

        private int toBegin(int[] at, Line line, int[] first) {
            if (at[3] == 1 && at[2] == line.pen && at[0] == first[0] && at[1] == first[1]) {
                return 0;
            }
            return (at[3] == 1 ? prices[2] : 0) + (at[2] == line.pen ? 0 : prices[3])
                    + way(at, first) * prices[1] + prices[2];
        }

        private void search(boolean[] done, int left, int[] at, int spent, List<int[]> path) {
            if (spent + prices[2] >= best) {
                return;
            }
            if (left == 0) {
                best = spent + prices[2];
                bestRows = new ArrayList<>(path);
                return;
            }
            for (int s = 0; s < done.length; s++) {
                boolean free = !done[s];
                for (int o = 0; o < done.length && free; o++) {
                    free = done[o] || !over[s][o];
                }
                for (int b = 0; free && b < strokes.get(s).beginnings(); b++) {
                    Line line = strokes.get(s);
                    List<int[]> way = line.from(b);
                    int begin = toBegin(at, line, way.get(0));
                    int draw = ticks(s, b);
                    int[] end = way.get(way.size() - 1);
                    done[s] = true;
                    path.add(new int[] {s, b, draw, begin});
                    search(done, left - 1, new int[] {end[0], end[1], line.pen, 1},
                            spent + begin + draw, path);
                    path.remove(path.size() - 1);
                    done[s] = false;
                }
            }
        }

        int plan() {
            know();
            return sum;
        }

        int planned(int i, int what) {
            know();
            return i < 0 || i >= rows.size() || what < 0 || what > 3 ? NONE : rows.get(i)[what];
        }

        boolean start() {
            know();
            if (timeline != null || rows.isEmpty()) {
                return false;
            }
            runs++;
            tick = 0;
            waited = 0;
            timeline = new ArrayList<>();
            now = new Moment();
            now.x = x;
            now.y = y;
            now.pen = pen;
            now.ended = new int[strokes.size()];
            java.util.Arrays.fill(now.ended, NONE);
            now.stroke = rows.get(0)[0];
            timeline.add(now.copy());
            for (int i = 0; i < rows.size(); i++) {
                now.stroke = rows.get(i)[0];
                begin(rows.get(i));
                dry();
                draw(rows.get(i));
                now.stroke = i + 1 < rows.size() ? rows.get(i + 1)[0] : NONE;
                now.units = 0;
                now.passed = 0;
                overwrite();
            }
            stand(prices[2]);
            now.down = false;
            overwrite();
            take(timeline.get(0));
            return true;
        }

        /** What takes no ticks is seen behind the tick that ended last. */
        private void overwrite() {
            timeline.set(timeline.size() - 1, now.copy());
        }

        private void stand(int ticks) {
            for (int k = 0; k < ticks; k++) {
                timeline.add(now.copy());
            }
        }

        private void go(int[] to, int unit, boolean drawing) {
            int[] from = {now.x, now.y};
            int n = way(from, to);
            int units = now.units;
            for (int k = 1; k <= n * unit; k++) {
                int whole = k / unit;
                now.x = part(from[0], to[0], whole, n);
                now.y = part(from[1], to[1], whole, n);
                now.units = drawing ? units + whole : 0;
                timeline.add(now.copy());
            }
        }

        private static int part(int from, int to, int whole, int n) {
            return to >= from ? from + (to - from) * whole / n : from - (from - to) * whole / n;
        }

        private void begin(int[] row) {
            Line line = strokes.get(row[0]);
            int[] first = line.from(row[1]).get(0);
            if (now.down && now.pen == line.pen && now.x == first[0] && now.y == first[1]) {
                return;
            }
            if (now.down) {
                stand(prices[2]);
                now.down = false;
                overwrite();
            }
            if (now.pen != line.pen) {
                stand(prices[3]);
                now.pen = line.pen;
                overwrite();
            }
            go(first, prices[1], false);
            stand(prices[2]);
            now.down = true;
            overwrite();
        }

        private boolean wet() {
            int time = timeline.size() - 1;
            for (int s = 0; s < strokes.size(); s++) {
                if (now.ended[s] != NONE && time - now.ended[s] < strokes.get(s).wet
                        && touch(s, now.stroke) == 1) {
                    return true;
                }
            }
            return false;
        }

        private void dry() {
            while (wet()) {
                now.waited++;
                timeline.add(now.copy());
            }
        }

        private void draw(int[] row) {
            List<int[]> way = strokes.get(row[0]).from(row[1]);
            for (int i = 1; i < way.size(); i++) {
                if (i > 1 && corner(way.get(i - 2), way.get(i - 1), way.get(i))) {
                    stand(prices[4]);
                }
                go(way.get(i), prices[0], true);
                now.passed = i;
                overwrite();
            }
            now.ended[row[0]] = timeline.size() - 1;
        }

        private void take(Moment moment) {
            x = moment.x;
            y = moment.y;
            pen = moment.pen;
            waited = moment.waited;
            for (int s = 0; s < strokes.size(); s++) {
                strokes.get(s).ended = moment.ended[s];
                if (moment.ended[s] != NONE) {
                    strokes.get(s).drawn = true;
                }
            }
        }

        int step(int n) {
            if (timeline == null || n < 0 || n > 10000) {
                return NONE;
            }
            int gone = Math.min(n, timeline.size() - 1 - tick);
            tick += gone;
            take(timeline.get(tick));
            if (tick == timeline.size() - 1) {
                timeline = null;
                known = false;
            }
            return gone;
        }

        boolean jam() {
            if (timeline == null) {
                return false;
            }
            Moment moment = timeline.get(tick);
            jams++;
            if (moment.units > 0) {
                Line line = strokes.get(moment.stroke);
                int b = 0;
                for (int[] row : rows) {
                    b = row[0] == moment.stroke ? row[1] : b;
                }
                List<int[]> way = line.from(b);
                line.points = new ArrayList<>(way.subList(moment.passed, way.size()));
                line.cut = true;
            }
            timeline = null;
            known = false;
            return true;
        }

        int arm(int what) {
            Moment moment = timeline == null ? null : timeline.get(tick);
            switch (what) {
                case 0: return x;
                case 1: return y;
                case 2: return pen;
                case 3: return moment != null && moment.down ? 1 : 0;
                case 4: return moment != null ? 1 : 0;
                case 5: return tick;
                case 6: return waited;
                case 7: return moment == null ? NONE : moment.stroke;
                case 8: return moment == null ? 0 : moment.units;
                default: return NONE;
            }
        }

        int told(int s, int what) {
            if (!is(s)) {
                return NONE;
            }
            Line line = strokes.get(s);
            switch (what) {
                case 0: return line.pen;
                case 1: return line.wet;
                case 2: return line.points.size();
                case 3: return line.closed() ? 1 : 0;
                case 4: return line.drawn ? 0 : 1;
                case 5: return line.ended;
                default: return NONE;
            }
        }

        int at(int s, int i, int axis) {
            return !is(s) || i < 0 || i >= strokes.get(s).points.size()
                    ? NONE : strokes.get(s).points.get(i)[axis];
        }

        int count(int what) {
            int left = 0;
            for (Line line : strokes) {
                left += line.drawn ? 0 : 1;
            }
            int pairs = 0;
            for (boolean[] row : over) {
                for (boolean is : row) {
                    pairs += is ? 1 : 0;
                }
            }
            int[] all = {strokes.size(), left, pairs, runs, jams};
            return what < 0 || what > 4 ? NONE : all[what];
        }
    }
}
