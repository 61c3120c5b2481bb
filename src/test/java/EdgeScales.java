/** Boundaries of part I: numbers, units, rules, scales, marks, flaws, seen; promises 6 to 12. */
final class EdgeScales {
    private static final int MIN = Integer.MIN_VALUE;
    private static final int MAX = Integer.MAX_VALUE;

    private final Due due;
    private SlideWorks x;
    private int calls;

    EdgeScales(Due due) {
        this.due = due;
    }

    void test() {
        digits();
        places();
        bits();
        fourRules();
        eightScales();
        folds();
        lastMarks();
        truePlaces();
        stretches();
        flawSizes();
        flawsOfOthers();
        markOfNumber();
        handAndEye();
        seenTies();
        seenEverywhere(1, false);
        seenEverywhere(2, true);
        seenEverywhere(3, false);
        withinEdges();
        seenArguments();
    }

    /** A works with one scale, flawed as told, renewed before it has been called too often. */
    private void fresh(int fold, boolean turned, int[] flaws) {
        calls++;
        if (x != null && calls % 480 != 0) {
            return;
        }
        x = new SlideWorks();
        x.rule();
        x.scale(0, true, fold, turned);
        for (int t = 0; t < flaws.length; t++) {
            x.flaw(0, 0, t, flaws[t]);
        }
        x.take(0);
    }

    private void digits() {
        due.promise("DIGITS m (100 .. 999)");
        SlideWorks y = PromiseTest.full();
        due.is("units 100", y.units(100), 0);
        due.is("units 999", y.units(999), 4094);
        int[] none = {99, 1000, 0, -100, -999, MIN, MAX, 100 + (1 << 16), 1 << 31 | 200};
        for (int m : none) {
            due.is("units " + m, y.units(m), -1);
            due.is("hair " + m, y.hair(0, m, 0), -1);
            due.is("slide " + m, y.slide(1, m, 0), -5000);
            due.is("factor " + m, y.factor(m, 0, false), -1);
            due.is("thread of left " + m, y.thread(m, 0, 200, 0, 0), -1000);
            due.is("thread of right " + m, y.thread(200, 0, m, 0, 1), -1000);
            due.is("cut " + m, y.cut(0, 0, 0, m), -1000);
            due.is("shown of one " + m, y.shown(0, 0, 0, m, 1, 0, 200), -1);
            due.is("shown of other " + m, y.shown(0, 0, 0, 200, 1, 0, m), -1);
        }
        for (int m : new int[] {100, 999}) {
            due.is("hair " + m, y.hair(0, m, 0), EdgeTest.units(m));
            due.is("slide " + m, y.slide(1, m, 0), 0);
            due.is("factor " + m, y.factor(m, 0, false) >= 0, true);
            due.is("thread " + m, y.thread(m, 0, m, 0, 0) > 0, true);
            due.is("shown " + m, y.shown(0, 0, 0, m, 1, 0, m) >= 0, true);
        }
    }

    private void places() {
        due.promise("a PLACE e (-99 .. 99)");
        SlideWorks y = PromiseTest.full();
        for (int e : new int[] {-100, 100, MIN, MAX, 99 + (1 << 8)}) {
            due.is("hair of place " + e, y.hair(0, 200, e), -1);
            due.is("slide of place " + e, y.slide(1, 200, e), -5000);
            due.is("factor of place " + e, y.factor(200, e, true), -1);
            due.is("thread of left place " + e, y.thread(200, e, 200, 0, 1), -1000);
            due.is("thread of right place " + e, y.thread(200, 0, 200, e, 1), -1000);
        }
        int factors = 0;
        for (int e : new int[] {-99, 99}) {
            due.is("hair of place " + e, y.hair(0, 200, e), 1233);
            due.is("slide of place " + e, y.slide(1, 200, e), 0);
            due.is("factor of place " + e, y.factor(200, e, true), factors);
            due.is("thread of place " + e, y.thread(100, e, 100, e, 1), 2 * e);
            factors++;
        }
    }

    private void bits() {
        due.promise("if x is then 1000000000 or more: the first of the twelve bits");
        SlideWorks y = new SlideWorks();
        // 3.16 times itself is below 10, 3.17 times itself is not.
        due.is("units 316", y.units(316) < 2048, true);
        due.is("units 317", y.units(317) >= 2048, true);
        int ahead = -1;
        for (int m = 100; m <= 499; m++) {
            due.is("units " + m + " above those ahead", y.units(m) > ahead, true);
            ahead = y.units(m);
        }
        y = new SlideWorks();
        for (int m = 500; m <= 999; m++) {
            due.is("units " + m, y.units(m), EdgeTest.units(m));
        }
    }

    private void fourRules() {
        due.promise("RULES, 4 at most");
        SlideWorks y = new SlideWorks();
        due.is("no rule yet", y.take(0), false);
        for (int i = 0; i < 4; i++) {
            due.is("rule not there yet", y.take(i), false);
            due.is("rule", y.rule(), i);
            due.is("rule there", y.take(i), true);
        }
        due.is("a fifth", y.rule(), -1);
        due.is("and once more", y.rule(), -1);
        due.is("no fifth", y.take(4), false);
        due.is("the last in hand", y.state(0), 3);
        due.is("count", y.count(0), 4);
    }

    private void eightScales() {
        due.promise("SCALES, 8 at most");
        SlideWorks y = new SlideWorks();
        for (int rule = 0; rule < 4; rule++) {
            y.rule();
            for (int i = 0; i < 8; i++) {
                due.is("scale not there yet", y.cut(rule, i, 0, 100), -1000);
                due.is("scale", y.scale(rule, true, 1, i == 7), i);
            }
            due.is("a ninth", y.scale(rule, true, 1, false), -1);
            due.is("no ninth", y.cut(rule, 8, 0, 100), -1000);
            due.is("the eighth", y.cut(rule, 7, 0, 100), 4096);
        }
    }

    private void folds() {
        due.promise("of a FOLD (1, 2, 3)");
        SlideWorks y = new SlideWorks();
        y.rule();
        for (int fold : new int[] {0, 4, -1, -2, MIN, MAX, 257}) {
            due.is("fold " + fold, y.scale(0, true, fold, false), -1);
            due.is("turned, fold " + fold, y.scale(0, false, fold, true), -1);
        }
        for (int fold = 1; fold <= 3; fold++) {
            due.is("fold " + fold, y.scale(0, true, fold, false), fold - 1);
        }
        due.is("a rule below 0", y.scale(-1, true, 1, false), -1);
        due.is("a rule not there", y.scale(1, true, 1, false), -1);
    }

    private void lastMarks() {
        due.promise("MARKS (f, m): f 0 .. FOLD less 1, m 100 .. 999, and the last one, (FOLD, 100)");
        for (int fold = 1; fold <= 3; fold++) {
            for (int turned = 0; turned < 2; turned++) {
                SlideWorks y = new SlideWorks();
                y.rule();
                y.scale(0, true, fold, turned == 1);
                due.is("first", y.cut(0, 0, 0, 100), turned == 1 ? 4096 : 0);
                due.is("last", y.cut(0, 0, fold, 100), turned == 1 ? 0 : 4096);
                due.is("ahead of the last", y.cut(0, 0, fold - 1, 999), EdgeTest.truth(fold - 1, 999, fold, turned == 1));
                int[][] none = {{fold, 101}, {fold, 99}, {fold, 999}, {fold, 200}, {fold + 1, 100}, {-1, 100}, {-1, 999},
                    {0, 99}, {0, 1000}, {fold - 1, 1000}, {MIN, 100}, {MAX, 100}, {fold, MIN}};
                for (int[] each : none) {
                    due.is("cut " + each[0] + " " + each[1], y.cut(0, 0, each[0], each[1]), -1000);
                }
            }
        }
    }

    private void truePlaces() {
        due.promise("TRUE place: by FOLD, rounded down; if TURNED, 4096 less that");
        for (int fold = 1; fold <= 3; fold++) {
            for (int turned = 0; turned < 2; turned++) {
                x = null;
                for (int mark = 0; mark <= 900 * fold; mark++) {
                    fresh(fold, turned == 1, new int[16]);
                    int f = mark / 900;
                    int m = 100 + mark % 900;
                    due.is("cut " + f + " " + m, x.cut(0, 0, f, m), EdgeTest.truth(f, m, fold, turned == 1));
                }
            }
        }
    }

    private void stretches() {
        due.promise("STRETCH t is TRUE from 256 * t up to 255 more (4096 is in the last one)");
        int[] flaws = new int[16];
        for (int t = 0; t < 16; t++) {
            flaws[t] = t - 8;
        }
        int edges = 0;
        for (int fold = 1; fold <= 3; fold++) {
            for (int turned = 0; turned < 2; turned++) {
                x = null;
                for (int mark = 0; mark <= 900 * fold; mark++) {
                    int place = EdgeTest.truth(mark / 900, 100 + mark % 900, fold, turned == 1);
                    int t = place == 4096 ? 15 : (place - place % 256) / 256;
                    edges += place % 256 == 0 || place % 256 == 255 ? 1 : 0;
                    fresh(fold, turned == 1, flaws);
                    due.is("cut of one at " + place, x.cut(0, 0, mark / 900, 100 + mark % 900), place + flaws[t]);
                }
            }
        }
        due.is("marks at a stretch's ends", edges > 40, true);
    }

    private void flawSizes() {
        due.promise("a FLAW is -20 .. 20, 0 at first; STRETCH t (0 .. 15)");
        SlideWorks y = PromiseTest.full();
        due.is("0 at first", y.cut(0, 0, 0, 999), 4094);
        for (int d : new int[] {-20, 20, 0, 1, -1}) {
            due.is("flaw " + d, y.flaw(0, 0, 15, d), true);
            due.is("cut", y.cut(0, 0, 0, 999), 4094 + d);
            due.is("cut of the end", y.cut(0, 0, 1, 100), 4096 + d);
        }
        for (int d : new int[] {-21, 21, MIN, MAX, 256, 1 << 16}) {
            due.is("flaw " + d, y.flaw(0, 0, 15, d), false);
            due.is("cut stays", y.cut(0, 0, 0, 999), 4093);
        }
        for (int t : new int[] {-1, 16, 17, MIN, MAX, -16}) {
            due.is("stretch " + t, y.flaw(0, 0, t, 5), false);
            due.is("first stays", y.cut(0, 0, 0, 100), 0);
            due.is("last stays", y.cut(0, 0, 1, 100), 4095);
        }
        due.is("stretch 0", y.flaw(0, 0, 0, 5), true);
        due.is("first", y.cut(0, 0, 0, 100), 5);
        due.is("last", y.cut(0, 0, 1, 100), 4095);
    }

    private void flawsOfOthers() {
        due.promise("flaw: false for others");
        SlideWorks y = PromiseTest.full();
        due.is("another rule", y.rule(), 1);
        y.scale(1, true, 1, false);
        int[][] none = {{-1, 0}, {2, 0}, {4, 0}, {0, -1}, {0, 5}, {0, 8}, {1, 1}, {MIN, 0}, {0, MAX}};
        for (int[] each : none) {
            due.is("rule " + each[0] + ", scale " + each[1], y.flaw(each[0], each[1], 0, 3), false);
        }
        due.is("one of rule 1", y.flaw(1, 0, 0, 3), true);
        due.is("that of rule 0 is another", y.cut(0, 0, 0, 100), 0);
        due.is("that of rule 1", y.cut(1, 0, 0, 100), 3);
    }

    private void markOfNumber() {
        due.promise("The MARK of a NUMBER: m, and f the rest of its PLACE by FOLD (0 or more)");
        for (int fold = 1; fold <= 3; fold++) {
            x = null;
            for (int e = -99; e <= 99; e++) {
                fresh(fold, false, new int[16]);
                int f = (e + 99 * fold) % fold;
                due.is("hair of place " + e + " by fold " + fold, x.hair(0, 456, e), EdgeTest.truth(f, 456, fold, false));
            }
        }
    }

    private void handAndEye() {
        due.promise("HAND (0 .. 20; 2 at first) and EYE (9 .. 40; 10 at first)");
        SlideWorks y = new SlideWorks();
        due.is("hand at first", y.count(5), 2);
        due.is("eye at first", y.count(6), 10);
        for (int hand = -1; hand <= 21; hand++) {
            due.is("hand " + hand, y.steps(hand, 25), hand >= 0 && hand <= 20);
            due.is("hand", y.count(5), Math.max(0, Math.min(20, hand)) == hand ? hand : hand < 0 ? 2 : 20);
        }
        for (int eye = 8; eye <= 41; eye++) {
            due.is("eye " + eye, y.steps(7, eye), eye >= 9 && eye <= 40);
            due.is("eye", y.count(6), eye < 9 ? 25 : Math.min(40, eye));
        }
        int[][] none = {{-1, 8}, {21, 41}, {MIN, 20}, {5, MIN}, {MAX, 20}, {5, MAX}};
        for (int[] each : none) {
            due.is("steps " + each[0] + " " + each[1], y.steps(each[0], each[1]), false);
        }
        due.is("hand stays", y.count(5), 7);
        due.is("eye stays", y.count(6), 40);
    }

    private void seenTies() {
        due.promise("of alike ones the least DECADE, then the least m");
        SlideWorks y = new SlideWorks();
        y.rule();
        y.scale(0, true, 1, false);
        y.scale(0, true, 2, false);
        y.scale(0, true, 2, true);
        y.scale(0, true, 3, false);
        // 100 stands at 0, 101 at 17, 102 at 35: between 17 and 35 the middle is 26, between 0 and 17 there is none.
        due.is("ahead of the middle", y.seen(0, 0, 25, 0, 0), 101);
        due.is("in the middle", y.seen(0, 0, 26, 0, 0), 101);
        due.is("behind the middle", y.seen(0, 0, 27, 0, 0), 102);
        // On the fold of 2 the decades meet: 999 of the first at 2047, 100 of the second at 2048.
        due.is("999 of decade 0", y.seen(0, 1, 2047, 0, 0), 999);
        due.is("100 of decade 1", y.seen(0, 1, 2048, 0, 0), 1100);
        y.flaw(0, 1, 7, 1);
        due.is("both at 2048: the least decade", y.seen(0, 1, 2048, 0, 0), 999);
        due.is("both within 0: the low one", y.seen(0, 1, 2048, 0, 1), 999);
        due.is("both within 0: the high one", y.seen(0, 1, 2048, 0, 2), 1100);
        // Turned, the first decade is the upper half: 999 of it at 2049.
        due.is("turned, at 2049", y.seen(0, 2, 2049, 0, 0), 999);
        due.is("turned, at 2048", y.seen(0, 2, 2048, 0, 0), 1100);
        y.flaw(0, 2, 8, -1);
        // Now 999 stands at 2048, and 100 of the next decade, in stretch 8 as well, at 2047.
        due.is("turned, moved", y.seen(0, 2, 2048, 0, 0), 999);
        due.is("turned, moved, at 2047", y.seen(0, 2, 2047, 0, 0), 1100);
        y.flaw(0, 2, 8, 0);
        // Of the fold of 3 some marks share a place: the least m is seen, the greatest is the high one.
        int shared = 0;
        for (int m = 950; m < 999; m++) {
            int place = EdgeTest.truth(0, m, 3, false);
            boolean first = EdgeTest.truth(0, m - 1, 3, false) < place;
            boolean second = EdgeTest.truth(0, m + 1, 3, false) == place;
            boolean third = EdgeTest.truth(0, m + 2, 3, false) == place;
            if (first && second && !third) {
                shared++;
                due.is("the least m", y.seen(0, 3, place, 0, 0), m);
                due.is("low", y.seen(0, 3, place, 0, 1), m);
                due.is("high", y.seen(0, 3, place, 0, 2), m + 1);
            }
        }
        due.is("some share a place", shared > 10, true);
    }

    /** SEEN and within at every place, with flaws that push the stretches over one another and apart. */
    private void seenEverywhere(int fold, boolean turned) {
        due.promise("SEEN at x, within q, at every x; fold " + fold);
        int[] flaws = {20, -20, 20, 20, -20, -20, 0, 20, -20, 13, -7, 20, 1, -20, 20, -20};
        int marks = 900 * fold + 1;
        int[] stands = new int[marks];
        for (int mark = 0; mark < marks; mark++) {
            int place = EdgeTest.truth(mark / 900, 100 + mark % 900, fold, turned);
            stands[mark] = place + flaws[Math.min(15, place / 256)];
        }
        x = null;
        for (int at = 0; at <= 4096; at++) {
            int seen = 0;
            for (int mark = 1; mark < marks; mark++) {
                seen = Math.abs(stands[mark] - at) < Math.abs(stands[seen] - at) ? mark : seen;
            }
            fresh(fold, turned, flaws);
            due.is("seen at " + at, x.seen(0, 0, at, 0, 0), 1000 * (seen / 900) + 100 + seen % 900);
            int q = at % 7 == 0 ? Math.abs(stands[seen] - at) : at * 31 % 60;
            q = at % 50 == 0 ? at / 4 % 1000 : q;
            int low = -1;
            int high = -1;
            for (int mark = 0; mark < marks; mark++) {
                if (Math.abs(stands[mark] - at) <= q) {
                    low = low < 0 ? mark : low;
                    high = mark;
                }
            }
            low = low < 0 ? seen : low;
            high = high < 0 ? seen : high;
            fresh(fold, turned, flaws);
            due.is("low at " + at + " within " + q, x.seen(0, 0, at, q, 1), 1000 * (low / 900) + 100 + low % 900);
            fresh(fold, turned, flaws);
            due.is("high at " + at + " within " + q, x.seen(0, 0, at, q, 2), 1000 * (high / 900) + 100 + high % 900);
        }
    }

    private void withinEdges() {
        due.promise("at most q from x; SEEN both, if there is none");
        SlideWorks y = new SlideWorks();
        y.rule();
        y.scale(0, true, 1, false);
        // 101 stands at 17, 102 at 35; both are 9 from 26.
        for (int what = 0; what < 3; what++) {
            due.is("none within 8, " + what, y.seen(0, 0, 26, 8, what), 101);
        }
        due.is("low within 9", y.seen(0, 0, 26, 9, 1), 101);
        due.is("high within 9", y.seen(0, 0, 26, 9, 2), 102);
        due.is("low within 25", y.seen(0, 0, 26, 25, 1), 101);
        due.is("low within 26", y.seen(0, 0, 26, 26, 1), 100);
        due.is("one within 0, low", y.seen(0, 0, 17, 0, 1), 101);
        due.is("one within 0, high", y.seen(0, 0, 17, 0, 2), 101);
        due.is("all up to 999, low", y.seen(0, 0, 999, 999, 1), 100);
        due.is("all but the first, low", y.seen(0, 0, 1000, 999, 1), 101);
        due.is("all up to the end, high", y.seen(0, 0, 3097, 999, 2), 1100);
        due.is("all but the end, high", y.seen(0, 0, 3096, 999, 2), 999);
    }

    private void seenArguments() {
        due.promise("seen: x (0 .. 4096), q (0 .. 999), what 0, 1, 2; NONE: no such ones");
        SlideWorks y = new SlideWorks();
        y.rule();
        due.is("no scale yet", y.seen(0, 0, 0, 0, 0), -1);
        y.scale(0, false, 1, false);
        due.is("x 0", y.seen(0, 0, 0, 0, 0), 100);
        due.is("x 4096", y.seen(0, 0, 4096, 0, 0), 1100);
        due.is("q 999", y.seen(0, 0, 0, 999, 2), 175);
        int[][] none = {{-1, 0, 0}, {4097, 0, 0}, {0, -1, 0}, {0, 1000, 0}, {0, 0, -1}, {0, 0, 3}, {MIN, 0, 0}, {MAX, 0, 0},
            {0, MIN, 0}, {0, MAX, 0}, {0, 0, MIN}, {0, 0, MAX}};
        for (int[] each : none) {
            due.is("seen " + each[0] + " " + each[1] + " " + each[2], y.seen(0, 0, each[0], each[1], each[2]), -1);
        }
        due.is("rule -1", y.seen(-1, 0, 0, 0, 0), -1);
        due.is("rule 1", y.seen(1, 0, 0, 0, 0), -1);
        due.is("scale -1", y.seen(0, -1, 0, 0, 0), -1);
        due.is("scale 1", y.seen(0, 1, 0, 0, 0), -1);
    }
}
