import java.util.ArrayList;
import java.util.Arrays;
import java.util.List;
import java.util.Random;

/**
 * Plans of eight strokes with up to eleven beginnings each, too many for trying every order: a
 * second way to the same plan goes forward over sets of strokes, keeping of equals the path that is
 * lower where they first differ. The drawings are the same each time.
 */
public final class FullPlansTest extends Checks {
    private static final int STROKES = 8;
    private static final int[] LOWEST = {1, 1, 0, 0, 0};
    private static final int[] HIGHEST = {9, 9, 99, 999, 99};
    private static final long UNSEEN = Long.MAX_VALUE;

    public static void main(String[] args) {
        for (int seed = 1; seed <= 60; seed++) {
            sentence("drawing " + seed);
            new Drawing(new Random(seed)).comparePlan();
        }
        finish("full plans are as due");
    }

    /** A stroke with a beginning: where it is begun and ended, and its ticks. */
    private record Slot(int stroke, int beginning, int[] first, int[] last, int ticks) {
    }

    private static final class Drawing {
        private final Random random;
        private final PenArm arm = new PenArm();
        private final int[] prices = {2, 1, 5, 30, 3};
        private final int[] pens = new int[STROKES];
        private final int[] below = new int[STROKES];
        private final List<Slot> slots = new ArrayList<>();

        Drawing(Random random) {
            this.random = random;
            choosePrices();
            int span = List.of(1, 2, 4, 30, 500).get(random.nextInt(5));
            int mostPens = 1 + random.nextInt(4);
            for (int s = 0; s < STROKES; s++) {
                pens[s] = random.nextInt(mostPens);
                due("stroke", arm.stroke(pens[s], 0), s);
                addSlots(s, addPoints(s, span));
            }
            chooseOver();
        }

        private void choosePrices() {
            for (int which = 0; which < prices.length; which++) {
                int kind = random.nextInt(6);
                if (kind < 3) {
                    prices[which] = kind == 0 ? LOWEST[which] : kind == 1 ? HIGHEST[which]
                            : LOWEST[which] + random.nextInt(HIGHEST[which]);
                    due("price", arm.price(which, prices[which]), true);
                }
            }
        }

        private List<int[]> addPoints(int s, int span) {
            int many = List.of(2, 3, 4, 8, 12, 12).get(random.nextInt(6));
            boolean closes = random.nextBoolean();
            List<int[]> points = new ArrayList<>();
            while (points.size() < many) {
                int[] point = {random.nextInt(span + 1), random.nextInt(span + 1)};
                int size = points.size();
                if (closes && size == many - 1 && !alike(points.get(0), points.get(size - 1))) {
                    point = points.get(0);
                }
                if (size == 0 || !alike(points.get(size - 1), point)) {
                    points.add(point);
                    due("point", arm.point(s, point[0], point[1]), size + 1);
                }
            }
            return points;
        }

        /** A stroke is mostly over a lower one; now and then OVER goes round. */
        private void chooseOver() {
            int pairs = random.nextInt(3) * random.nextInt(5);
            for (int i = 0; i < pairs; i++) {
                int one = random.nextInt(STROKES);
                int other = random.nextInt(STROKES);
                int stroke = random.nextInt(20) == 0 ? Math.min(one, other) : Math.max(one, other);
                int under = one + other - stroke;
                boolean isNew = stroke != under && (below[stroke] >> under & 1) == 0;
                due("over", arm.over(stroke, under, true), isNew);
                if (isNew) {
                    below[stroke] |= 1 << under;
                }
            }
        }

        private void addSlots(int s, List<int[]> points) {
            int size = points.size();
            boolean closed = size >= 4 && alike(points.get(0), points.get(size - 1));
            for (int b = 0; b < (closed ? size - 1 : 2); b++) {
                List<int[]> drawn = new ArrayList<>();
                for (int j = 0; j < size; j++) {
                    drawn.add(points.get(closed ? (b + j) % (size - 1) : b == 0 ? j : size - 1 - j));
                }
                int ticks = ticksOf(drawn);
                due("ticks(" + s + ", " + b + ")", arm.ticks(s, b), ticks);
                slots.add(new Slot(s, b, drawn.get(0), drawn.get(size - 1), ticks));
            }
        }

        private int ticksOf(List<int[]> drawn) {
            int sum = 0;
            for (int j = 1; j < drawn.size(); j++) {
                int[] to = drawn.get(j);
                sum += prices[0] * way(drawn.get(j - 1), to);
                if (j + 1 < drawn.size() && !goesOn(drawn.get(j - 1), to, drawn.get(j + 1))) {
                    sum += prices[4];
                }
            }
            return sum;
        }

        /** Both pieces point the same way: scaled to each other's length they are the same. */
        private static boolean goesOn(int[] from, int[] at, int[] to) {
            long in = way(from, at);
            long out = way(at, to);
            return (at[0] - from[0]) * out == (to[0] - at[0]) * in
                    && (at[1] - from[1]) * out == (to[1] - at[1]) * in;
        }

        private static boolean alike(int[] p, int[] q) {
            return p[0] == q[0] && p[1] == q[1];
        }

        private static int way(int[] p, int[] q) {
            return Math.max(Math.abs(p[0] - q[0]), Math.abs(p[1] - q[1]));
        }

        private int toBegin(Slot from, Slot to) {
            if (from == null) {
                return prices[3] + way(new int[2], to.first) * prices[1] + prices[2];
            }
            boolean samePen = pens[from.stroke] == pens[to.stroke];
            if (samePen && alike(from.last, to.first)) {
                return 0;
            }
            return prices[2] + (samePen ? 0 : prices[3]) + way(from.last, to.first) * prices[1]
                    + prices[2];
        }

        void comparePlan() {
            int sets = 1 << STROKES;
            int many = slots.size();
            long[] sums = new long[sets * many];
            long[] paths = new long[sets * many];
            Arrays.fill(sums, UNSEEN);
            for (int next = 0; next < many; next++) {
                extend(sums, paths, 0, -1, next);
            }
            for (int i = many; i < sets * many; i++) {
                for (int next = 0; next < many && sums[i] != UNSEEN; next++) {
                    extend(sums, paths, i / many, i % many, next);
                }
            }
            int best = (sets - 1) * many;
            for (int i = best; i < sets * many; i++) {
                if (sums[i] < sums[best] || sums[i] == sums[best] && paths[i] < paths[best]) {
                    best = i;
                }
            }
            dueRows(sums[best], paths[best]);
        }

        /** A path is a number with a digit of seven bits for each slot, the first one highest. */
        private void extend(long[] sums, long[] paths, int done, int last, int next) {
            Slot slot = slots.get(next);
            if ((done >> slot.stroke & 1) != 0 || (below[slot.stroke] & ~done) != 0) {
                return;
            }
            int many = slots.size();
            long sum = last < 0 ? 0 : sums[done * many + last];
            long path = last < 0 ? 0 : paths[done * many + last];
            sum += toBegin(last < 0 ? null : slots.get(last), slot) + slot.ticks;
            path = path << 7 | next;
            int i = (done | 1 << slot.stroke) * many + next;
            if (sum < sums[i] || sum == sums[i] && path < paths[i]) {
                sums[i] = sum;
                paths[i] = path;
            }
        }

        private void dueRows(long sum, long path) {
            boolean isThere = sum != UNSEEN;
            due("plan", arm.plan(), isThere ? sum + prices[2] : NONE);
            Slot before = null;
            for (int i = 0; i < STROKES; i++) {
                Slot slot = slots.get((int) (path >> 7 * (STROKES - 1 - i) & 127));
                due("which " + i, arm.planned(i, 0), isThere ? slot.stroke : NONE);
                due("beginning " + i, arm.planned(i, 1), isThere ? slot.beginning : NONE);
                due("ticks " + i, arm.planned(i, 2), isThere ? slot.ticks : NONE);
                due("to begin " + i, arm.planned(i, 3), isThere ? toBegin(before, slot) : NONE);
                before = slot;
            }
            due("no more", arm.planned(STROKES, 0), NONE);
        }
    }
}
