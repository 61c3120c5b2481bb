/** Boundaries of part IV: products, dividing, charts; promises 24 to 32. */
final class EdgeCharts {
    private static final int MIN = Integer.MIN_VALUE;
    private static final int MAX = Integer.MAX_VALUE;
    private static final int[] STEPS = {1, 2, 5, 10, 20, 50, 100};

    private final Due due;

    EdgeCharts(Due due) {
        this.due = due;
    }

    void test() {
        noFactors();
        sevenFactors();
        whoIsFirst();
        orderEdges();
        placesOfProducts();
        alikeOrders();
        divideEverything();
        divideArguments();
        chartArguments();
        everyChart();
        lesserOfAlike();
        designs();
    }

    private static SlideWorks product(int[]... factors) {
        SlideWorks x = new SlideWorks();
        for (int[] each : factors) {
            x.factor(each[0], each[1], each[2] == 1);
        }
        return x;
    }

    private void comes(String of, SlideWorks x, int slides, int hairs, int place, int... order) {
        due.is("slides of " + of, x.fewest(0), slides);
        due.is("hairs of " + of, x.fewest(1), hairs);
        due.is("place of " + of, x.fewest(2), place);
        for (int i = 0; i < order.length; i++) {
            due.is("order " + i + " of " + of, x.order(i), order[i]);
        }
        due.is("order behind " + of, x.order(order.length), -1);
    }

    private void noFactors() {
        due.promise("fewest: -1000: no FACTORS; order: NONE: not so many");
        SlideWorks x = new SlideWorks();
        for (int turn = 0; turn < 2; turn++) {
            for (int what = -1; what <= 3; what++) {
                due.is("fewest " + what, x.fewest(what), -1000);
            }
            for (int i = -1; i <= 1; i++) {
                due.is("order " + i, x.order(i), -1);
            }
            due.is("count", x.count(1), 0);
            due.is("clear of none", x.clear(), 0);
            due.is("factor", x.factor(200, 0, turn == 0), 0);
            due.is("order 0", x.order(0), 0);
            due.is("clear", x.clear(), 1);
        }
    }

    private void sevenFactors() {
        due.promise("FACTORS, 7 at most");
        SlideWorks x = new SlideWorks();
        for (int i = 0; i < 7; i++) {
            due.is("not there yet", x.order(i), -1);
            due.is("factor", x.factor(100, 0, i > 3), i);
        }
        int slides = x.fewest(0);
        due.is("an eighth", x.factor(200, 5, false), -1);
        due.is("an eighth, over", x.factor(200, 5, true), -1);
        due.is("count", x.count(1), 7);
        due.is("slides", x.fewest(0), slides);
        due.is("place", x.fewest(2), 0);
        due.is("order 7", x.order(7), -1);
        due.is("clear", x.clear(), 7);
        due.is("room again", x.factor(300, 1, false), 0);
        due.is("place", x.fewest(2), 1);
    }

    private void whoIsFirst() {
        due.promise("the first one is times, if there is any that is; without one, h is 0 to begin with, and all are over");
        comes("/ 2 * 3", product(new int[] {200, 0, 1}, new int[] {300, 0, 0}), 1, 2, 0, 1, 0);
        comes("/ 3 * 2", product(new int[] {300, 0, 1}, new int[] {200, 0, 0}), 1, 2, -1, 1, 0);
        comes("/ 2 / 3 * 1", product(new int[] {200, 0, 1}, new int[] {300, 0, 1}, new int[] {100, 2, 0}), 2, 3, 1, 2, 0, 1);
        comes("/ 1", product(new int[] {100, 0, 1}), 1, 1, 0, 0);
        comes("/ 9.99", product(new int[] {999, 7, 1}), 1, 1, -8, 0);
        comes("* 9.99", product(new int[] {999, 7, 0}), 0, 1, 7, 0);
        // With h 0 the second over brings the end 0 to 0 itself, and to 1 below it.
        comes("/ 1.01 / 9.91", product(new int[] {101, 0, 1}, new int[] {991, 0, 1}), 2, 2, -1, 0, 1);
        comes("/ 1.2 / 8.34", product(new int[] {120, 0, 1}, new int[] {834, 0, 1}), 2, 2, -2, 0, 1);
        comes("/ 1 / 1", product(new int[] {100, 1, 1}, new int[] {100, 1, 1}), 2, 2, -2, 0, 1);
    }

    private void orderEdges() {
        due.promise("order: the i-th FACTOR; fewest: no such one");
        SlideWorks x = product(new int[] {200, 0, 0}, new int[] {300, 0, 0});
        for (int i : new int[] {-1, 2, 6, 7, MIN, MAX}) {
            due.is("order " + i, x.order(i), -1);
        }
        for (int what : new int[] {-1, 3, MIN, MAX}) {
            due.is("fewest " + what, x.fewest(what), -1000);
        }
        comes("* 2 * 3", x, 1, 2, 0, 0, 1);
    }

    private void placesOfProducts() {
        due.promise("the PLACE that comes: beyond 99 too");
        int[] most = {100, 99, 0};
        comes("1e99 seven times", product(most, most, most, most, most, most, most), 6, 7, 693, 0, 1, 2, 3, 4, 5, 6);
        int[] least = {100, -99, 0};
        comes("1e-99 seven times", product(least, least, least, least, least, least, least), 6, 7, -693, 0, 1, 2, 3, 4, 5, 6);
        int[] over = {100, 99, 1};
        comes("over 1e99 seven times", product(over, over, over, over, over, over, over), 7, 7, -693, 0, 1, 2, 3, 4, 5, 6);
        // 4096 itself is not beyond, one more is.
        comes("* 1.01 * 9.91", product(new int[] {101, 0, 0}, new int[] {991, 0, 0}), 1, 2, 0, 0, 1);
        comes("* 1.01 * 9.92", product(new int[] {101, 0, 0}, new int[] {992, 0, 0}), 2, 2, 1, 0, 1);
        // Behind the over the end 0 stands below 0, and at 0.
        comes("* 1 / 2 * 2", product(new int[] {100, 0, 0}, new int[] {200, 0, 1}, new int[] {200, 0, 0}), 1, 3, 0, 0, 1, 2);
        comes("* 2 / 2", product(new int[] {200, 0, 0}, new int[] {200, 0, 1}), 1, 2, 0, 0, 1);
        comes("* 2 / 2.01", product(new int[] {200, 0, 0}, new int[] {201, 0, 1}), 1, 2, -1, 0, 1);
    }

    private void alikeOrders() {
        due.promise("THE ORDER: then the first (its first FACTOR the least, then the next)");
        int[] one = {100, 0, 0};
        comes("1 three times", product(one, one, one), 2, 3, 0, 0, 1, 2);
        int[] over = {100, 0, 1};
        comes("1 thrice, over it twice", product(over, one, over, one, one), 2, 5, 0, 1, 0, 3, 2, 4);
        comes("over ahead of times", product(over, over, one), 2, 3, 0, 2, 0, 1);
    }

    private void divideEverything() {
        due.promise("DIVIDING: the least STEP by which no two are nearer than GAP; 100 if none is so");
        for (int fold = 1; fold <= 3; fold++) {
            for (int turned = 0; turned < 2; turned++) {
                divideScale(fold, turned == 1);
            }
        }
    }

    private void divideScale(int fold, boolean turned) {
        int[][] nearest = new int[9 * fold][STEPS.length];
        for (int part = 0; part < 9 * fold; part++) {
            for (int s = 0; s < STEPS.length; s++) {
                nearest[part][s] = nearestOf(part / 9, 100 + 100 * (part % 9), STEPS[s], fold, turned);
            }
        }
        SlideWorks x = null;
        int calls = 0;
        for (int gap = 1; gap <= 300; gap++) {
            int marks = 1;
            for (int part = 0; part < 9 * fold; part++) {
                int s = 0;
                while (s < 6 && nearest[part][s] < gap) {
                    s++;
                }
                marks += 100 / STEPS[s];
                if (calls % 480 == 0) {
                    x = new SlideWorks();
                    x.rule();
                    x.scale(0, true, fold, turned);
                }
                calls += 2;
                due.is("step of part " + part + ", gap " + gap, x.step(0, 0, gap, part / 9, 1 + part % 9), STEPS[s]);
            }
            due.is("marks, gap " + gap, x.marks(0, 0, gap), marks);
        }
    }

    private static int nearestOf(int f, int from, int step, int fold, boolean turned) {
        int nearest = 9999;
        for (int m = from; m < from + 100; m += step) {
            int next = m + step == 1000 ? EdgeTest.truth(f + 1, 100, fold, turned) : EdgeTest.truth(f, m + step, fold, turned);
            nearest = Math.min(nearest, Math.abs(next - EdgeTest.truth(f, m, fold, turned)));
        }
        return nearest;
    }

    private void divideArguments() {
        due.promise("step, marks: a GAP (1 .. 300), a DECADE, j 1 .. 9; NONE: no such ones");
        SlideWorks x = new SlideWorks();
        due.is("no rule", x.step(0, 0, 5, 0, 1), -1);
        x.rule();
        due.is("no scale", x.step(0, 0, 5, 0, 1), -1);
        due.is("no scale", x.marks(0, 0, 5), -1);
        for (int fold = 1; fold <= 3; fold++) {
            x.scale(0, fold == 2, fold, fold == 3);
        }
        for (int gap : new int[] {0, 301, -1, MIN, MAX}) {
            due.is("step by gap " + gap, x.step(0, 0, gap, 0, 1), -1);
            due.is("marks by gap " + gap, x.marks(0, 0, gap), -1);
        }
        due.is("gap 1", x.step(0, 0, 1, 0, 1), 1);
        due.is("gap 300", x.step(0, 0, 300, 0, 9), 100);
        for (int fold = 1; fold <= 3; fold++) {
            for (int f : new int[] {-1, fold, fold + 1, MIN, MAX}) {
                due.is("decade " + f + " of fold " + fold, x.step(0, fold - 1, 5, f, 1), -1);
            }
            due.is("the last decade of fold " + fold, x.step(0, fold - 1, 1, fold - 1, 1), 1);
        }
        for (int j : new int[] {0, 10, -1, MIN, MAX}) {
            due.is("part " + j, x.step(0, 0, 5, 0, j), -1);
        }
        for (int bad : new int[] {-1, 3, MIN, MAX}) {
            due.is("step of scale " + bad, x.step(0, bad, 5, 0, 1), -1);
            due.is("marks of scale " + bad, x.marks(0, bad, 5), -1);
            due.is("step of rule " + bad, x.step(bad, 0, 5, 0, 1), -1);
            due.is("marks of rule " + bad, x.marks(bad, 0, 5), -1);
        }
    }

    private void chartArguments() {
        due.promise("chart: a, b 1 .. 3, t 1 .. 7, c 1 .. 9: true; false for others");
        SlideWorks x = new SlideWorks();
        int[] most = {3, 3, 7, 9};
        for (int which = 0; which < 4; which++) {
            for (int bad : new int[] {0, most[which] + 1, -1, MIN, MAX}) {
                int[] four = {2, 2, 3, 4};
                four[which] = bad;
                due.is("chart with " + bad + " at " + which, x.chart(four[0], four[1], four[2], four[3]), false);
                due.is("the chart of before", x.thread(200, 0, 300, 0, 0), 600);
            }
        }
        for (int which = 0; which < 4; which++) {
            for (int edge : new int[] {1, most[which]}) {
                int[] four = {2, 2, 3, 4};
                four[which] = edge;
                due.is("chart with " + edge + " at " + which, x.chart(four[0], four[1], four[2], four[3]), true);
                due.is("it is this one", reachShown(x, 200, 0, 300, 0), nearestTo(target(four, 200, 0, 300, 0)));
            }
        }
        for (int what : new int[] {-1, 2, MIN, MAX}) {
            due.is("thread, what " + what, x.thread(200, 0, 300, 0, what), -1000);
        }
    }

    /** The thread's height on the middle line, as REACH. */
    private static long target(int[] chart, int m, int e, int n, int f) {
        long left = Math.floorDiv((long) EdgeTest.units(m) + 4096L * e, (long) chart[0]);
        long right = Math.floorDiv((long) EdgeTest.units(n) + 4096L * f, (long) chart[1]);
        return Math.floorDiv(left * (8 - chart[2]) + right * chart[2], 8L) * chart[3];
    }

    /** The REACH of the NUMBER nearest to a target, the lesser of two, by going through two places. */
    private static long nearestTo(long target) {
        long place = Math.floorDiv(target, 4096L);
        long best = place * 4096;
        for (int i = 1; i <= 1800; i++) {
            long reach = (place + i / 900) * 4096 + EdgeTest.units(100 + i % 900);
            best = Math.abs(reach - target) < Math.abs(best - target) ? reach : best;
        }
        return best;
    }

    private static long reachShown(SlideWorks x, int m, int e, int n, int f) {
        return EdgeTest.units(x.thread(m, e, n, f, 0)) + 4096L * x.thread(m, e, n, f, 1);
    }

    private void everyChart() {
        due.promise("THE THREAD, rounded down each time; the PLACE as it comes");
        int[][] numbers = {{100, -99, 100, -99}, {999, 99, 999, 99}, {999, -1, 101, -1}, {101, -2, 999, 1}, {100, 0, 100, 0},
            {317, -99, 653, 99}};
        SlideWorks x = null;
        int calls = 0;
        for (int all = 0; all < 3 * 3 * 7 * 9; all++) {
            int[] chart = {1 + all % 3, 1 + all / 3 % 3, 1 + all / 9 % 7, 1 + all / 63};
            for (int[] each : numbers) {
                if (calls % 510 == 0) {
                    x = new SlideWorks();
                }
                calls += 3;
                x.chart(chart[0], chart[1], chart[2], chart[3]);
                due.is("thread " + each[0] + "e" + each[1] + " " + each[2] + "e" + each[3] + " of chart " + all,
                        reachShown(x, each[0], each[1], each[2], each[3]),
                        nearestTo(target(chart, each[0], each[1], each[2], each[3])));
            }
        }
    }

    private void lesserOfAlike() {
        due.promise("of alike ones the lesser");
        SlideWorks x = new SlideWorks();
        x.chart(1, 1, 1, 1);
        int alike = 0;
        for (int f = 0; f <= 9; f++) {
            for (int n = 100; n <= 999 && alike < 50; n += 7) {
                long target = target(new int[] {1, 1, 1, 1}, 100, 0, n, f);
                long low = nearestTo(target);
                if (nearestTo(2 * target - low) == 2 * target - low && target > low && alike < 50) {
                    alike++;
                    due.is("thread to " + n + "e" + f, reachShown(x, 100, 0, n, f), low);
                }
            }
        }
        due.is("some are alike", alike > 20, true);
    }

    private void designs() {
        due.promise("design: powers 1 .. 3; NONE: no such powers");
        SlideWorks x = new SlideWorks();
        for (int bad : new int[] {0, 4, -1, MIN, MAX}) {
            due.is("design " + bad + " 1", x.design(bad, 1), -1);
            due.is("design 1 " + bad, x.design(1, bad), -1);
            due.is("design " + bad + " " + bad, x.design(bad, bad), -1);
        }
        for (int i = 1; i <= 3; i++) {
            for (int k = 1; k <= 3; k++) {
                int want = -2;
                for (int all = 3379; all >= 1111; all--) {
                    int t = all / 10 % 10;
                    int c = all % 10;
                    boolean chart = all / 1000 <= 3 && all / 100 % 10 >= 1 && all / 100 % 10 <= 3 && t >= 1 && t <= 7 && c >= 1;
                    if (chart && c * (8 - t) == 8 * (all / 1000) * i && c * t == 8 * (all / 100 % 10) * k) {
                        want = all;
                    }
                }
                due.is("design " + i + " " + k, x.design(i, k), want);
            }
        }
        due.is("the chart stays", x.thread(200, 0, 300, 0, 0), 600);
    }
}
