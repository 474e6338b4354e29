import java.util.NoSuchElementException;

/**
 * An arm that draws strokes with pens: the cheapest order, direction and beginning by ticks, and a
 * run tick by tick that may jam and goes on with what is missing.
 */
public final class PenArm {
    public static final int NONE = -1;

    private static final int MAX_STROKES = 8;
    private static final int MAX_POINTS = 12;
    private static final int MAX_BEGINNINGS = 11;
    private static final int FEWEST_POINTS = 2;
    private static final int FEWEST_CLOSED = 4;
    private static final int MAX_PEN = 3;
    private static final int MAX_WET = 1000;
    private static final int MAX_PLACE = 500;
    private static final int MAX_STEP = 10000;

    private static final int DRAWING = 0;
    private static final int AIR = 1;
    private static final int LIFT = 2;
    private static final int CHANGED = 3;
    private static final int CORNER = 4;
    private static final int PRICES = 5;
    private static final int[] FIRST_PRICE = {2, 1, 5, 30, 3};
    private static final int[] LOWEST_PRICE = {1, 1, 0, 0, 0};
    private static final int[] HIGHEST_PRICE = {9, 9, 99, 999, 99};

    private final Sheet sheet;
    private final Hand hand;
    private final Plan plan;
    private final Run run;

    public PenArm() {
        sheet = new Sheet();
        hand = new Hand();
        plan = new Plan(sheet, hand);
        run = new Run(sheet, hand);
    }

    public int stroke(int pen, int wet) {
        if (run.going || sheet.size >= MAX_STROKES) {
            return NONE;
        }
        if (!within(pen, 0, MAX_PEN) || !within(wet, 0, MAX_WET)) {
            return NONE;
        }
        plan.forget();
        return sheet.addStroke(pen, wet);
    }

    public int point(int stroke, int x, int y) {
        if (run.going || !sheet.has(stroke) || stroke != sheet.size - 1) {
            return NONE;
        }
        if (!within(x, 0, MAX_PLACE) || !within(y, 0, MAX_PLACE)) {
            return NONE;
        }
        if (!sheet.strokes[stroke].takes(x, y)) {
            return NONE;
        }
        plan.forget();
        return sheet.strokes[stroke].addPoint(x, y);
    }

    public boolean over(int stroke, int other, boolean is) {
        if (run.going || !sheet.has(stroke) || !sheet.has(other) || stroke == other) {
            return false;
        }
        if (sheet.isOver(stroke, other) == is) {
            return false;
        }
        plan.forget();
        sheet.over[stroke] ^= 1 << other;
        return true;
    }

    public boolean price(int which, int ticks) {
        if (run.going || !within(which, 0, PRICES - 1)) {
            return false;
        }
        if (!within(ticks, LOWEST_PRICE[which], HIGHEST_PRICE[which])) {
            return false;
        }
        plan.forget();
        sheet.prices[which] = ticks;
        return true;
    }

    public boolean clear() {
        if (run.going) {
            return false;
        }
        plan.forget();
        sheet.wipe();
        hand.goHome();
        return true;
    }

    public int plan() {
        plan.renew();
        return plan.sum;
    }

    public int planned(int i, int what) {
        plan.renew();
        if (!within(i, 0, plan.size - 1)) {
            return NONE;
        }
        switch (what) {
            case 0:
                return plan.which[i];
            case 1:
                return plan.beginnings[i];
            case 2:
                return plan.drawTicks[i];
            case 3:
                return plan.beginTicks[i];
            default:
                return NONE;
        }
    }

    public int ticks(int stroke, int beginning) {
        if (!sheet.has(stroke)) {
            return NONE;
        }
        Stroke it = sheet.strokes[stroke];
        if (!within(beginning, 0, it.beginnings() - 1)) {
            return NONE;
        }
        return it.drawTicks(beginning, sheet.prices);
    }

    public int touch(int one, int other) {
        if (!sheet.has(one) || !sheet.has(other)) {
            return NONE;
        }
        Stroke first = sheet.strokes[one];
        Stroke second = sheet.strokes[other];
        if (first.size < FEWEST_POINTS || second.size < FEWEST_POINTS) {
            return NONE;
        }
        return first.meets(second) ? 1 : 0;
    }

    public boolean start() {
        if (run.going) {
            return false;
        }
        plan.renew();
        if (plan.size == 0) {
            return false;
        }
        run.begin(plan);
        return true;
    }

    public int step(int n) {
        if (!run.going || !within(n, 0, MAX_STEP)) {
            return NONE;
        }
        int gone = run.advance(n);
        if (!run.going) {
            plan.forget();
        }
        return gone;
    }

    public boolean jam() {
        if (!run.going) {
            return false;
        }
        run.breakOff();
        plan.forget();
        return true;
    }

    public int arm(int what) {
        switch (what) {
            case 0:
                return hand.x;
            case 1:
                return hand.y;
            case 2:
                return hand.pen;
            case 3:
                return hand.down ? 1 : 0;
            case 4:
                return run.going ? 1 : 0;
            case 5:
                return run.tick;
            case 6:
                return run.ticksWaited();
            case 7:
                return run.strokeUnderway();
            case 8:
                return run.unitsDrawn();
            default:
                return NONE;
        }
    }

    public int told(int stroke, int what) {
        if (!sheet.has(stroke)) {
            return NONE;
        }
        Stroke it = sheet.strokes[stroke];
        switch (what) {
            case 0:
                return it.pen;
            case 1:
                return it.wet;
            case 2:
                return it.size;
            case 3:
                return it.closed ? 1 : 0;
            case 4:
                return it.left ? 1 : 0;
            case 5:
                return it.endedAt;
            default:
                return NONE;
        }
    }

    public int at(int stroke, int i, boolean y) throws NoSuchElementException {
        if (!sheet.has(stroke) || !within(i, 0, sheet.strokes[stroke].size - 1)) {
            throw new NoSuchElementException("no such point");
        }
        Stroke it = sheet.strokes[stroke];
        return y ? it.ys[i] : it.xs[i];
    }

    public int count(int what) {
        switch (what) {
            case 0:
                return sheet.size;
            case 1:
                return Integer.bitCount(sheet.leftOnes());
            case 2:
                return sheet.pairsOver();
            case 3:
                return run.runs;
            case 4:
                return run.jams;
            default:
                return NONE;
        }
    }

    private static boolean within(int value, int lowest, int highest) {
        return value >= lowest && value <= highest;
    }

    private static int wayOf(int dx, int dy) {
        return Math.max(Math.abs(dx), Math.abs(dy));
    }

    /** A row of points; the j-th drawn point is the j-th one as seen from a beginning. */
    private static final class Stroke {
        int pen;
        int wet;
        int size;
        boolean left;
        boolean cut;
        boolean closed;
        int endedAt;
        int[] xs = new int[MAX_POINTS];
        int[] ys = new int[MAX_POINTS];
        private int[] spareXs = new int[MAX_POINTS];
        private int[] spareYs = new int[MAX_POINTS];

        void renew(int newPen, int newWet) {
            pen = newPen;
            wet = newWet;
            size = 0;
            left = true;
            cut = false;
            closed = false;
            endedAt = NONE;
        }

        boolean takes(int x, int y) {
            if (!left || cut || size >= MAX_POINTS) {
                return false;
            }
            return size == 0 || xs[size - 1] != x || ys[size - 1] != y;
        }

        int addPoint(int x, int y) {
            xs[size] = x;
            ys[size] = y;
            size++;
            closed = size >= FEWEST_CLOSED && xs[0] == x && ys[0] == y;
            return size;
        }

        /** A row too short to be drawn has no beginning. */
        int beginnings() {
            if (size < FEWEST_POINTS) {
                return 0;
            }
            return closed ? size - 1 : 2;
        }

        private int drawnPoint(int beginning, int j) {
            if (!closed) {
                return beginning == 0 ? j : size - 1 - j;
            }
            int round = size - 1;
            return beginning + j < round ? beginning + j : beginning + j - round;
        }

        int drawnX(int beginning, int j) {
            return xs[drawnPoint(beginning, j)];
        }

        int drawnY(int beginning, int j) {
            return ys[drawnPoint(beginning, j)];
        }

        int drawTicks(int beginning, int[] prices) {
            int sum = 0;
            for (int j = 0; j + 1 < size; j++) {
                int dx = drawnX(beginning, j + 1) - drawnX(beginning, j);
                int dy = drawnY(beginning, j + 1) - drawnY(beginning, j);
                sum += wayOf(dx, dy) * prices[DRAWING];
                if (turnsAt(beginning, j)) {
                    sum += prices[CORNER];
                }
            }
            return sum;
        }

        /** The drawn point j has a piece ahead of it and one behind it that do not go straight on. */
        boolean turnsAt(int beginning, int j) {
            if (j <= 0 || j + 1 >= size) {
                return false;
            }
            int dxIn = drawnX(beginning, j) - drawnX(beginning, j - 1);
            int dyIn = drawnY(beginning, j) - drawnY(beginning, j - 1);
            int dxOut = drawnX(beginning, j + 1) - drawnX(beginning, j);
            int dyOut = drawnY(beginning, j + 1) - drawnY(beginning, j);
            return dxIn * dyOut != dyIn * dxOut || dxIn * dxOut + dyIn * dyOut < 0;
        }

        /** What is left is kept in the order in which it was drawn. */
        void keepFrom(int beginning, int passed) {
            int kept = 0;
            for (int j = passed; j < size; j++) {
                spareXs[kept] = drawnX(beginning, j);
                spareYs[kept] = drawnY(beginning, j);
                kept++;
            }
            int[] oldXs = xs;
            int[] oldYs = ys;
            xs = spareXs;
            ys = spareYs;
            spareXs = oldXs;
            spareYs = oldYs;
            size = kept;
            cut = true;
            closed = false;
            left = size >= FEWEST_POINTS;
        }

        boolean meets(Stroke other) {
            for (int i = 0; i + 1 < size; i++) {
                for (int j = 0; j + 1 < other.size; j++) {
                    if (spansMeet(xs, i, other.xs, j) && spansMeet(ys, i, other.ys, j)
                            && lineParts(i, other, j) && other.lineParts(j, this, i)) {
                        return true;
                    }
                }
            }
            return false;
        }

        private static boolean spansMeet(int[] a, int i, int[] b, int j) {
            return Math.max(a[i], a[i + 1]) >= Math.min(b[j], b[j + 1])
                    && Math.max(b[j], b[j + 1]) >= Math.min(a[i], a[i + 1]);
        }

        /** The other's piece j does not lie wholly on one side of the line through piece i. */
        private boolean lineParts(int i, Stroke other, int j) {
            long begins = sideOf(i, other.xs[j], other.ys[j]);
            long ends = sideOf(i, other.xs[j + 1], other.ys[j + 1]);
            return begins * ends <= 0;
        }

        private int sideOf(int i, int x, int y) {
            return (xs[i + 1] - xs[i]) * (y - ys[i]) - (ys[i + 1] - ys[i]) * (x - xs[i]);
        }
    }

    /** The strokes, what is over what, and the prices. */
    private static final class Sheet {
        final Stroke[] strokes = new Stroke[MAX_STROKES];
        /** Bit j of over[i]: stroke i is over stroke j. */
        final int[] over = new int[MAX_STROKES];
        final int[] prices = new int[PRICES];
        int size;

        Sheet() {
            for (int i = 0; i < MAX_STROKES; i++) {
                strokes[i] = new Stroke();
            }
            for (int i = 0; i < PRICES; i++) {
                prices[i] = FIRST_PRICE[i];
            }
        }

        boolean has(int stroke) {
            return within(stroke, 0, size - 1);
        }

        int addStroke(int pen, int wet) {
            strokes[size].renew(pen, wet);
            size++;
            return size - 1;
        }

        void wipe() {
            size = 0;
            for (int i = 0; i < MAX_STROKES; i++) {
                over[i] = 0;
            }
        }

        boolean isOver(int stroke, int other) {
            return (over[stroke] >> other & 1) != 0;
        }

        int pairsOver() {
            int pairs = 0;
            for (int i = 0; i < size; i++) {
                pairs += Integer.bitCount(over[i]);
            }
            return pairs;
        }

        /** Bit i: stroke i is left. */
        int leftOnes() {
            int ones = 0;
            for (int i = 0; i < size; i++) {
                if (strokes[i].left) {
                    ones |= 1 << i;
                }
            }
            return ones;
        }

        boolean someLeftIsTooShort() {
            for (int i = 0; i < size; i++) {
                if (strokes[i].left && strokes[i].size < FEWEST_POINTS) {
                    return true;
                }
            }
            return false;
        }

        void forgetEnds() {
            for (int i = 0; i < size; i++) {
                strokes[i].endedAt = NONE;
            }
        }
    }

    /** Where an arm is, with which pen, and whether it is down. */
    private static final class Hand {
        int x;
        int y;
        int pen = NONE;
        boolean down;

        void goHome() {
            x = 0;
            y = 0;
            pen = NONE;
            down = false;
        }

        void standLike(Hand other) {
            x = other.x;
            y = other.y;
            pen = other.pen;
            down = other.down;
        }

        void standBehind(Stroke stroke, int beginning) {
            x = stroke.drawnX(beginning, stroke.size - 1);
            y = stroke.drawnY(beginning, stroke.size - 1);
            pen = stroke.pen;
            down = true;
        }

        boolean isReady(int toX, int toY, int toPen) {
            return down && pen == toPen && x == toX && y == toY;
        }

        int ticksToBegin(int toX, int toY, int toPen, int[] prices) {
            if (isReady(toX, toY, toPen)) {
                return 0;
            }
            int sum = wayOf(toX - x, toY - y) * prices[AIR] + prices[LIFT];
            if (down) {
                sum += prices[LIFT];
            }
            if (pen != toPen) {
                sum += prices[CHANGED];
            }
            return sum;
        }
    }

    /**
     * The cheapest order with beginnings. A slot is a stroke with one of its beginnings; slots are
     * numbered by stroke, then by beginning, so that the first of several best ones is the due one.
     */
    private static final class Plan {
        private static final int SLOTS = MAX_STROKES * MAX_BEGINNINGS;
        private static final int FROM_ARM = SLOTS;
        private static final int SETS = 1 << MAX_STROKES;
        /** Far above every sum, and far below what an int holds. */
        private static final int IMPOSSIBLE = 1000000000;

        private final Sheet sheet;
        private final Hand hand;
        private final Hand probe = new Hand();
        /** By strokes that are done and the slot done last: the least ticks to the end. */
        private int[] toGo = new int[0];
        /** By the slot done last (or FROM_ARM) and the next one: the ticks to begin that. */
        private int[] between = new int[0];
        private final int[] slotTicks = new int[SLOTS];
        private final int[] choices = new int[SLOTS];
        private final int[] choiceTicks = new int[SLOTS];
        private int choiceCount;
        private int left;
        private boolean fresh;

        final int[] which = new int[MAX_STROKES];
        final int[] beginnings = new int[MAX_STROKES];
        final int[] drawTicks = new int[MAX_STROKES];
        final int[] beginTicks = new int[MAX_STROKES];
        int size;
        int sum;

        Plan(Sheet sheet, Hand hand) {
            this.sheet = sheet;
            this.hand = hand;
        }

        void forget() {
            fresh = false;
        }

        /** Nothing is forgotten while a run goes on, so it keeps the plan that it follows. */
        void renew() {
            if (fresh) {
                return;
            }
            fresh = true;
            size = 0;
            left = sheet.leftOnes();
            sum = left == 0 ? 0 : NONE;
            if (left != 0 && !sheet.someLeftIsTooShort()) {
                makeTables();
                tellSlots();
                tellToGo();
                follow();
            }
        }

        /** Made but once, and not in the constructor: an arm that never plans stays small. */
        private void makeTables() {
            if (toGo.length == 0) {
                toGo = new int[SETS * SLOTS];
                between = new int[(SLOTS + 1) * SLOTS];
            }
        }

        private boolean isLeft(int stroke) {
            return (left >> stroke & 1) != 0;
        }

        private void tellSlots() {
            probe.standLike(hand);
            tellRow(FROM_ARM);
            for (int s = 0; s < sheet.size; s++) {
                if (!isLeft(s)) {
                    continue;
                }
                Stroke stroke = sheet.strokes[s];
                int many = stroke.beginnings();
                for (int b = 0; b < many; b++) {
                    slotTicks[s * MAX_BEGINNINGS + b] = stroke.drawTicks(b, sheet.prices);
                    probe.standBehind(stroke, b);
                    tellRow(s * MAX_BEGINNINGS + b);
                }
            }
        }

        private void tellRow(int from) {
            for (int s = 0; s < sheet.size; s++) {
                if (!isLeft(s)) {
                    continue;
                }
                Stroke stroke = sheet.strokes[s];
                int many = stroke.beginnings();
                for (int b = 0; b < many; b++) {
                    int x = stroke.drawnX(b, 0);
                    int y = stroke.drawnY(b, 0);
                    between[from * SLOTS + s * MAX_BEGINNINGS + b] =
                            probe.ticksToBegin(x, y, stroke.pen, sheet.prices);
                }
            }
        }

        /** From the fullest set down, so that each set finds the fuller ones told. */
        private void tellToGo() {
            for (int done = SETS - 1; done >= 0; done--) {
                if ((done | left) == SETS - 1 && isInOrder(done)) {
                    tellToGoFrom(done);
                }
            }
        }

        private boolean isInOrder(int done) {
            for (int s = 0; s < sheet.size; s++) {
                if (isLeft(s) && (done >> s & 1) != 0 && !isFree(s, done)) {
                    return false;
                }
            }
            return true;
        }

        /** All that the stroke is over are done; those that are not left always are. */
        private boolean isFree(int stroke, int done) {
            return (sheet.over[stroke] & ~done) == 0;
        }

        private void tellToGoFrom(int done) {
            boolean allDone = done == SETS - 1;
            gatherChoices(done);
            for (int s = 0; s < sheet.size; s++) {
                if (!isLeft(s) || (done >> s & 1) == 0) {
                    continue;
                }
                int many = sheet.strokes[s].beginnings();
                for (int b = 0; b < many; b++) {
                    int slot = s * MAX_BEGINNINGS + b;
                    toGo[done * SLOTS + slot] =
                            allDone ? sheet.prices[LIFT] : sumBy(slot, bestChoice(slot));
                }
            }
        }

        private void gatherChoices(int done) {
            choiceCount = 0;
            for (int s = 0; s < sheet.size; s++) {
                if (!isLeft(s) || (done >> s & 1) != 0 || !isFree(s, done)) {
                    continue;
                }
                int many = sheet.strokes[s].beginnings();
                for (int b = 0; b < many; b++) {
                    addChoice(s * MAX_BEGINNINGS + b, done | 1 << s);
                }
            }
        }

        private void addChoice(int slot, int doneThen) {
            int rest = toGo[doneThen * SLOTS + slot];
            if (rest < IMPOSSIBLE) {
                choices[choiceCount] = slot;
                choiceTicks[choiceCount] = slotTicks[slot] + rest;
                choiceCount++;
            }
        }

        private int bestChoice(int from) {
            int best = NONE;
            int least = IMPOSSIBLE;
            int row = from * SLOTS;
            for (int c = 0; c < choiceCount; c++) {
                int ticks = between[row + choices[c]] + choiceTicks[c];
                if (ticks < least) {
                    least = ticks;
                    best = c;
                }
            }
            return best;
        }

        private int sumBy(int from, int choice) {
            if (choice == NONE) {
                return IMPOSSIBLE;
            }
            return between[from * SLOTS + choices[choice]] + choiceTicks[choice];
        }

        private void follow() {
            int from = FROM_ARM;
            int done = SETS - 1 & ~left;
            int wanted = Integer.bitCount(left);
            for (int i = 0; i < wanted; i++) {
                gatherChoices(done);
                int choice = bestChoice(from);
                if (choice == NONE) {
                    return;
                }
                if (i == 0) {
                    sum = sumBy(from, choice);
                }
                int slot = choices[choice];
                which[i] = slot / MAX_BEGINNINGS;
                beginnings[i] = slot % MAX_BEGINNINGS;
                drawTicks[i] = slotTicks[slot];
                beginTicks[i] = between[from * SLOTS + slot];
                size = i + 1;
                done |= 1 << which[i];
                from = slot;
            }
        }
    }

    /** One part of a run that does one thing for a known time. */
    private static final class Leg {
        static final int LIFTING = 0;
        static final int CHANGING = 1;
        static final int FLYING = 2;
        static final int LOWERING = 3;
        static final int WAITING = 4;
        static final int TURNING = 5;
        static final int PIECE = 6;

        int kind;
        int stroke;
        int beginning;
        int starts;
        int ends;
        int fromX;
        int fromY;
        int toX;
        int toY;
        int way;
        int unitTicks;

        int unitsBy(int tick) {
            return unitTicks > 0 ? (tick - starts) / unitTicks : 0;
        }

        int xBy(int tick) {
            return way > 0 ? fromX + (toX - fromX) * unitsBy(tick) / way : fromX;
        }

        int yBy(int tick) {
            return way > 0 ? fromY + (toY - fromY) * unitsBy(tick) / way : fromY;
        }
    }

    /**
     * A run. All that it will do is known as it starts, so it is laid out as legs then; a leg that
     * takes no ticks is over as soon as the one ahead of it is.
     */
    private static final class Run {
        /** To begin a stroke takes four legs, one waits, and corners stand between its pieces. */
        private static final int MAX_LEGS = MAX_STROKES * (5 + 2 * MAX_POINTS - 3) + 1;

        private final Sheet sheet;
        private final Hand hand;
        private final Leg[] legs = new Leg[MAX_LEGS];
        private int legCount;
        /** The leg underway; all ahead of it are over. */
        private int cursor;
        /** While legs are laid: where the arm will be, and when. */
        private final Hand ahead = new Hand();
        private int laidTicks;
        private final int[] endsDue = new int[MAX_STROKES];
        /** Of the stroke underway: what its legs that are over have drawn. */
        private int piecesOver;
        private int unitsOver;
        private int waitOver;

        boolean going;
        int tick;
        int runs;
        int jams;

        Run(Sheet sheet, Hand hand) {
            this.sheet = sheet;
            this.hand = hand;
            for (int i = 0; i < MAX_LEGS; i++) {
                legs[i] = new Leg();
            }
        }

        void begin(Plan plan) {
            going = true;
            runs++;
            tick = 0;
            cursor = 0;
            piecesOver = 0;
            unitsOver = 0;
            waitOver = 0;
            sheet.forgetEnds();
            layAll(plan);
            settle();
        }

        int advance(int n) {
            int gone = Math.min(n, laidTicks - tick);
            tick += gone;
            settle();
            return gone;
        }

        void breakOff() {
            waitOver = ticksWaited();
            if (cursor < legCount && unitsDrawn() > 0) {
                Leg leg = legs[cursor];
                sheet.strokes[leg.stroke].keepFrom(leg.beginning, piecesOver);
            }
            cursor = legCount;
            hand.down = false;
            going = false;
            jams++;
        }

        int ticksWaited() {
            if (isIn(Leg.WAITING)) {
                return waitOver + tick - legs[cursor].starts;
            }
            return waitOver;
        }

        int strokeUnderway() {
            return cursor < legCount ? legs[cursor].stroke : NONE;
        }

        int unitsDrawn() {
            if (isIn(Leg.PIECE)) {
                return unitsOver + legs[cursor].unitsBy(tick);
            }
            return isIn(Leg.TURNING) ? unitsOver : 0;
        }

        private boolean isIn(int kind) {
            return cursor < legCount && legs[cursor].kind == kind;
        }

        private void layAll(Plan plan) {
            legCount = 0;
            laidTicks = 0;
            ahead.standLike(hand);
            for (int i = 0; i < plan.size; i++) {
                int stroke = plan.which[i];
                int beginning = plan.beginnings[i];
                layBegin(stroke, beginning);
                layWait(stroke, beginning, readyAt(plan, i));
                layPieces(stroke, beginning);
                endsDue[stroke] = laidTicks;
            }
            layStanding(Leg.LIFTING, NONE, 0, sheet.prices[LIFT]);
        }

        private void layBegin(int s, int beginning) {
            Stroke stroke = sheet.strokes[s];
            int x = stroke.drawnX(beginning, 0);
            int y = stroke.drawnY(beginning, 0);
            if (ahead.isReady(x, y, stroke.pen)) {
                return;
            }
            if (ahead.down) {
                layStanding(Leg.LIFTING, s, beginning, sheet.prices[LIFT]);
            }
            if (ahead.pen != stroke.pen) {
                layStanding(Leg.CHANGING, s, beginning, sheet.prices[CHANGED]);
            }
            layMoving(Leg.FLYING, s, beginning, 0, sheet.prices[AIR]);
            layStanding(Leg.LOWERING, s, beginning, sheet.prices[LIFT]);
            ahead.pen = stroke.pen;
            ahead.down = true;
        }

        /** The tick at which all is dry that the i-th stroke of the plan touches. */
        private int readyAt(Plan plan, int i) {
            int ready = 0;
            Stroke stroke = sheet.strokes[plan.which[i]];
            for (int j = 0; j < i; j++) {
                Stroke earlier = sheet.strokes[plan.which[j]];
                int dry = endsDue[plan.which[j]] + earlier.wet;
                if (dry > ready && stroke.meets(earlier)) {
                    ready = dry;
                }
            }
            return ready;
        }

        private void layWait(int stroke, int beginning, int ready) {
            if (ready > laidTicks) {
                layStanding(Leg.WAITING, stroke, beginning, ready - laidTicks);
            }
        }

        private void layPieces(int s, int beginning) {
            Stroke stroke = sheet.strokes[s];
            for (int j = 0; j + 1 < stroke.size; j++) {
                if (stroke.turnsAt(beginning, j)) {
                    layStanding(Leg.TURNING, s, beginning, sheet.prices[CORNER]);
                }
                layMoving(Leg.PIECE, s, beginning, j + 1, sheet.prices[DRAWING]);
            }
        }

        private void layStanding(int kind, int stroke, int beginning, int ticks) {
            if (legCount >= MAX_LEGS) {
                return;
            }
            Leg leg = nextLeg(kind, stroke, beginning);
            leg.way = 0;
            leg.unitTicks = 0;
            closeLeg(leg, ticks);
        }

        /** A leg to the drawn point j of a stroke. */
        private void layMoving(int kind, int stroke, int beginning, int j, int unitTicks) {
            if (legCount >= MAX_LEGS) {
                return;
            }
            Leg leg = nextLeg(kind, stroke, beginning);
            leg.toX = sheet.strokes[stroke].drawnX(beginning, j);
            leg.toY = sheet.strokes[stroke].drawnY(beginning, j);
            leg.way = wayOf(leg.toX - leg.fromX, leg.toY - leg.fromY);
            leg.unitTicks = unitTicks;
            closeLeg(leg, leg.way * unitTicks);
            ahead.x = leg.toX;
            ahead.y = leg.toY;
        }

        private Leg nextLeg(int kind, int stroke, int beginning) {
            Leg leg = legs[legCount];
            leg.kind = kind;
            leg.stroke = stroke;
            leg.beginning = beginning;
            leg.fromX = ahead.x;
            leg.fromY = ahead.y;
            leg.toX = ahead.x;
            leg.toY = ahead.y;
            return leg;
        }

        private void closeLeg(Leg leg, int ticks) {
            leg.starts = laidTicks;
            laidTicks += ticks;
            leg.ends = laidTicks;
            legCount++;
        }

        private void settle() {
            while (cursor < legCount && legs[cursor].ends <= tick) {
                finish(legs[cursor]);
                cursor++;
            }
            if (cursor < legCount) {
                hand.x = legs[cursor].xBy(tick);
                hand.y = legs[cursor].yBy(tick);
            } else {
                going = false;
            }
        }

        private void finish(Leg leg) {
            hand.x = leg.toX;
            hand.y = leg.toY;
            switch (leg.kind) {
                case Leg.LIFTING:
                    hand.down = false;
                    break;
                case Leg.CHANGING:
                    hand.pen = sheet.strokes[leg.stroke].pen;
                    break;
                case Leg.LOWERING:
                    hand.down = true;
                    break;
                case Leg.WAITING:
                    waitOver += leg.ends - leg.starts;
                    break;
                case Leg.PIECE:
                    finishPiece(leg);
                    break;
                default:
                    break;
            }
        }

        private void finishPiece(Leg leg) {
            Stroke stroke = sheet.strokes[leg.stroke];
            piecesOver++;
            unitsOver += leg.way;
            if (piecesOver + 1 >= stroke.size) {
                stroke.left = false;
                stroke.endedAt = leg.ends;
                piecesOver = 0;
                unitsOver = 0;
            }
        }
    }
}
