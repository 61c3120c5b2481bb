/** Boundaries of part V: facts and guesses; promises 33 to 38. */
final class EdgeBook {
    private static final int MIN = Integer.MIN_VALUE;
    private static final int MAX = Integer.MAX_VALUE;
    private static final int EACH = 16 * 40;

    private final Due due;

    EdgeBook(Due due) {
        this.due = due;
    }

    void test() {
        eightyFacts();
        eightyWithStrikes();
        shownArguments();
        strikeArguments();
        noFacts();
        knownByArguments();
        guessOrder();
        guessArguments();
        fitsJust();
        everyDistance();
        stretchEdges();
        lastStretch();
        knownBy();
        stepsOfNow();
        scalesOfNow();
        sureOnes();
        oddOnes();
    }

    /** A rule with so many scales of fold 1, all alike. */
    private static SlideWorks alike(int scales) {
        SlideWorks x = new SlideWorks();
        x.rule();
        for (int i = 0; i < scales; i++) {
            x.scale(0, i % 2 == 0, 1, false);
        }
        return x;
    }

    private static int truth(int m) {
        return EdgeTest.units(m);
    }

    private void guess(SlideWorks x, int n, int i, int scale, int stretch, int flaw) {
        int[] all = {scale, stretch, flaw};
        for (int what = 0; what < 3; what++) {
            due.is("guess " + i + " by " + n + ", what " + what, x.guess(0, n, i, what), all[what]);
        }
    }

    private void eightyFacts() {
        due.promise("FACTS, 80 at most");
        SlideWorks x = alike(2);
        for (int i = 0; i < 80; i++) {
            due.is("not there yet", x.strike(i), -1);
            due.is("shown", x.shown(0, 0, 0, 200, 1, 0, 200), i);
            due.is("facts", x.count(2), i + 1);
        }
        due.is("an 81st", x.shown(0, 0, 0, 200, 1, 0, 300), -1);
        due.is("an 81st, a strike", x.strike(0), -1);
        due.is("facts", x.count(2), 80);
        due.is("known by 80", x.guesses(0, 80), 1 + 2 * EACH - 2 * 16);
        due.is("known by 81", x.guesses(0, 81), -1);
    }

    private void eightyWithStrikes() {
        due.promise("FACTS, 80 at most, STRIKES too");
        SlideWorks x = alike(2);
        x.shown(0, 0, 0, 200, 1, 0, 300);
        for (int i = 1; i < 79; i++) {
            due.is("strike", x.strike(0), i);
        }
        due.is("the 80th is shown", x.shown(0, 0, 0, 200, 1, 0, 300), 79);
        due.is("an 81st", x.strike(79), -1);
        due.is("the struck one known by 1", x.guesses(0, 1), 0);
        due.is("struck", x.guesses(0, 2), 1 + 2 * EACH);
        due.is("struck often", x.guesses(0, 79), 1 + 2 * EACH);
        due.is("the 80th", x.guesses(0, 80), 0);
    }

    private void shownArguments() {
        due.promise("shown: no such RULE, SCALES, MARKS, one and the same SCALE");
        SlideWorks x = new SlideWorks();
        due.is("no rule", x.shown(0, 0, 0, 200, 1, 0, 200), -1);
        x.rule();
        due.is("no scales", x.shown(0, 0, 0, 200, 1, 0, 200), -1);
        x.scale(0, true, 1, false);
        due.is("one scale", x.shown(0, 0, 0, 200, 1, 0, 200), -1);
        due.is("one and the same", x.shown(0, 0, 0, 200, 0, 0, 300), -1);
        x.scale(0, false, 3, true);
        for (int bad : new int[] {-1, 1, 2, 4, MIN, MAX}) {
            due.is("rule " + bad, x.shown(bad, 0, 0, 200, 1, 0, 200), -1);
        }
        for (int bad : new int[] {-1, 2, 8, MIN, MAX}) {
            due.is("one " + bad, x.shown(0, bad, 0, 200, 1, 0, 200), -1);
            due.is("other " + bad, x.shown(0, 0, 0, 200, bad, 0, 200), -1);
        }
        int[][] none = {{-1, 100}, {1, 101}, {2, 100}, {0, 99}, {0, 1000}, {MIN, 200}, {0, MAX}};
        for (int[] each : none) {
            due.is("mark " + each[0] + " " + each[1], x.shown(0, 0, each[0], each[1], 1, 0, 200), -1);
        }
        int[][] others = {{-1, 100}, {3, 101}, {4, 100}, {2, 99}, {2, 1000}, {MAX, 200}, {0, MIN}};
        for (int[] each : others) {
            due.is("other mark " + each[0] + " " + each[1], x.shown(0, 0, 0, 200, 1, each[0], each[1]), -1);
        }
        due.is("the same scale twice", x.shown(0, 1, 0, 200, 1, 0, 200), -1);
        due.is("facts", x.count(2), 0);
        due.is("the last marks", x.shown(0, 0, 1, 100, 1, 3, 100), 0);
        due.is("the first marks", x.shown(0, 1, 0, 100, 0, 0, 100), 1);
        due.is("the greatest m", x.shown(0, 1, 2, 999, 0, 0, 999), 2);
    }

    private void strikeArguments() {
        due.promise("strike: no such FACT, a STRIKE");
        SlideWorks x = alike(2);
        for (int bad : new int[] {-1, 0, 1, 79, 80, MIN, MAX}) {
            due.is("strike " + bad + " of none", x.strike(bad), -1);
        }
        due.is("shown", x.shown(0, 0, 0, 200, 1, 0, 200), 0);
        for (int bad : new int[] {-1, 1, 2, 79, 80, MIN, MAX}) {
            due.is("strike " + bad, x.strike(bad), -1);
        }
        due.is("strike", x.strike(0), 1);
        due.is("strike a strike", x.strike(1), -1);
        due.is("strike the same again", x.strike(0), 2);
        due.is("strike that strike", x.strike(2), -1);
        due.is("strike one not there", x.strike(3), -1);
        due.is("facts", x.count(2), 3);
    }

    private void noFacts() {
        due.promise("GUESSES without a SHOWN: all FIT");
        for (int scales = 0; scales <= 8; scales++) {
            SlideWorks x = alike(scales);
            due.is("guesses of " + scales + " scales", x.guesses(0, 0), 1 + EACH * scales);
            guess(x, 0, 0, -2, 0, 0);
            guess(x, 0, EACH * scales + 1, -1000, -1000, -1000);
            if (scales > 0) {
                guess(x, 0, EACH * scales, scales - 1, 15, 20);
            }
            due.is("sure of " + scales + " scales", x.sure(0, 0), -2);
            due.is("odd of " + scales + " scales", x.odd(0, 0), -1);
        }
    }

    private void knownByArguments() {
        due.promise("as KNOWN by n: NONE: no such ones");
        SlideWorks x = alike(2);
        x.rule();
        x.shown(0, 0, 0, 200, 1, 0, 200);
        x.strike(0);
        int[][] none = {{-1, 0}, {2, 0}, {4, 0}, {MIN, 0}, {MAX, 0}, {0, -1}, {0, 3}, {0, 80}, {0, MIN}, {0, MAX}, {1, 3}, {1, -1}};
        for (int[] each : none) {
            String of = " of rule " + each[0] + " by " + each[1];
            due.is("guesses" + of, x.guesses(each[0], each[1]), -1);
            due.is("guess" + of, x.guess(each[0], each[1], 0, 0), -1000);
            due.is("sure" + of, x.sure(each[0], each[1]), -1);
            due.is("odd" + of, x.odd(each[0], each[1]), -1);
        }
        for (int n = 0; n <= 2; n++) {
            due.is("guesses by " + n, x.guesses(0, n), 1 + 2 * EACH - (n == 1 ? 2 * 16 : 0));
            due.is("sure by " + n, x.sure(0, n), -2);
            due.is("odd by " + n, x.odd(0, n), n == 1 ? 0 : -1);
            due.is("guesses of a bare rule by " + n, x.guesses(1, n), 1);
            due.is("sure of a bare rule by " + n, x.sure(1, n), -2);
            due.is("odd of a bare rule by " + n, x.odd(1, n), -1);
        }
    }

    private void guessOrder() {
        due.promise("GUESSES go by SCALES, then STRETCHES, then FLAWS; the TRUE one is ahead of all");
        SlideWorks x = alike(3);
        guess(x, 0, 0, -2, 0, 0);
        for (int i = 0; i < 3 * EACH; i += 13) {
            int flaw = i % 40 < 20 ? i % 40 - 20 : i % 40 - 19;
            guess(x, 0, i + 1, i / EACH, i / 40 % 16, flaw);
        }
        x = alike(3);
        for (int edge : new int[] {0, 19, 20, 39, 40, EACH - 1, EACH, EACH + 19, EACH + 20, 2 * EACH - 1, 3 * EACH - 1}) {
            int flaw = edge % 40 < 20 ? edge % 40 - 20 : edge % 40 - 19;
            guess(x, 0, edge + 1, edge / EACH, edge / 40 % 16, flaw);
        }
    }

    private void guessArguments() {
        due.promise("guess: -1000: not so many, no such ones");
        SlideWorks x = alike(2);
        x.shown(0, 0, 0, 200, 1, 0, 204);
        int fits = x.guesses(0, 1);
        due.is("35 apart, a flaw of 23 and more: none", fits, 0);
        for (int i : new int[] {0, 1, -1, MAX, MIN}) {
            guess(x, 1, i, -1000, -1000, -1000);
        }
        x.shown(0, 0, 0, 200, 1, 0, 202);
        x.strike(0);
        fits = x.guesses(0, 3);
        due.is("some", fits > 1, true);
        for (int i : new int[] {-1, fits, fits + 1, MAX, MIN}) {
            guess(x, 3, i, -1000, -1000, -1000);
        }
        due.is("the last", x.guess(0, 3, fits - 1, 0), 1);
        for (int what : new int[] {-1, 3, MIN, MAX}) {
            due.is("what " + what, x.guess(0, 3, 0, what), -1000);
        }
    }

    private void fitsJust() {
        due.promise("both CUT places are at most HAND and EYE apart");
        int[] digits = {200, 201, 202, 203, 204};
        for (int i = 0; i < digits.length; i++) {
            SlideWorks x = alike(2);
            x.shown(0, i % 2, 0, 200, 1 - i % 2, 0, digits[i]);
            int apart = truth(digits[i]) - truth(200);
            for (int hand = 0; hand <= 20; hand++) {
                int eye = Math.max(9, Math.min(40, apart - hand - (hand + i) % 2));
                x.steps(hand, eye);
                boolean fits = x.guess(0, 1, 0, 0) == -2;
                due.is(apart + " apart by " + hand + " and " + eye, fits, apart <= hand + eye);
            }
        }
    }

    /** Two scales, marks at every distance up to 60: how many guesses fit. */
    private void everyDistance() {
        due.promise("a FLAW (-20 .. 20, not 0) in one STRETCH of one SCALE alone");
        for (int m = 150; m <= 170; m++) {
            SlideWorks x = alike(2);
            x.shown(0, 0, 0, 160, 1, 0, m);
            int apart = truth(m) - truth(160);
            for (int most = 9; most <= 60; most += 3) {
                int hand = Math.max(0, most - 40);
                x.steps(hand, most - hand);
                int fits = 0;
                for (int d = -20; d <= 20; d++) {
                    if (d != 0) {
                        // In scale 0 its mark is at d more, in scale 1 the other one is.
                        fits += Math.abs(apart - d) <= most ? 1 : 0;
                        fits += Math.abs(apart + d) <= most ? 1 : 0;
                    }
                }
                fits += Math.abs(apart) <= most ? 1 + 2 * 15 * 40 : 0;
                due.is(apart + " apart within " + most, x.guesses(0, 1), fits);
            }
        }
    }

    private void stretchEdges() {
        due.promise("a FLAW in one STRETCH: TRUE from 256 * t up to 255 more");
        // 154 stands at 768, the first of stretch 3; 153 in stretch 2; 866 at 3840, the first of stretch 15.
        int[][] rows = {{154, 3}, {153, 2}, {866, 15}, {865, 14}, {100, 0}, {999, 15}, {115, 0}, {116, 1}};
        for (int[] each : rows) {
            due.is("stretch of " + each[0], truth(each[0]) / 256, each[1]);
            SlideWorks x = alike(2);
            x.shown(0, 0, 0, each[0], 1, 0, each[0]);
            x.steps(0, 9);
            // All but the flaws beyond 9 in this stretch of either scale.
            due.is("fits of " + each[0], x.guesses(0, 1), 1 + 2 * EACH - 2 * 22);
            int i = 1 + 40 * each[1];
            guess(x, 1, i, 0, each[1], -9);
            guess(x, 1, i + 17, 0, each[1], 9);
            if (each[1] < 15) {
                guess(x, 1, i + 18, 0, each[1] + 1, -20);
            } else {
                guess(x, 1, i + 18, 1, 0, -20);
            }
        }
    }

    private void lastStretch() {
        due.promise("4096 is in the last STRETCH");
        SlideWorks x = alike(2);
        x.scale(0, true, 1, true);
        x.steps(0, 9);
        x.shown(0, 0, 1, 100, 1, 1, 100);
        due.is("both ends", x.guesses(0, 1), 1 + 3 * EACH - 2 * 22);
        guess(x, 1, 1 + 40 * 15, 0, 15, -9);
        x.strike(0);
        x.shown(0, 2, 0, 100, 0, 1, 100);
        due.is("the turned one's first", x.guesses(0, 3), 1 + 3 * EACH - 2 * 22);
        guess(x, 3, 1 + 3 * EACH - 2 * 22 - 1, 2, 15, 9);
        x.strike(2);
        x.shown(0, 2, 1, 100, 0, 0, 100);
        due.is("the turned one's last is in stretch 0", x.guesses(0, 5), 1 + 3 * EACH - 2 * 22);
        guess(x, 5, 1, 0, 0, -9);
    }

    private void knownBy() {
        due.promise("As KNOWN by n: the first n of them, without those that a STRIKE among them names");
        SlideWorks x = alike(2);
        x.rule();
        x.scale(1, true, 1, false);
        x.scale(1, true, 1, false);
        x.shown(0, 0, 0, 200, 1, 0, 900);
        x.shown(1, 0, 0, 200, 1, 0, 900);
        x.shown(0, 0, 0, 300, 1, 0, 900);
        x.strike(0);
        x.strike(1);
        x.strike(2);
        int all = 1 + 2 * EACH;
        int[] zero = {all, 0, 0, 0, 0, 0, all};
        int[] one = {all, all, 0, 0, 0, all, all};
        int[] odd = {-1, 0, 0, 0, 2, 2, -1};
        for (int n = 0; n <= 6; n++) {
            due.is("rule 0 by " + n, x.guesses(0, n), zero[n]);
            due.is("rule 1 by " + n, x.guesses(1, n), one[n]);
            due.is("odd of rule 0 by " + n, x.odd(0, n), odd[n]);
            due.is("odd of rule 1 by " + n, x.odd(1, n), n >= 2 && n <= 4 ? 1 : -1);
        }
    }

    private void stepsOfNow() {
        due.promise("HAND and EYE are those of now, FLAWS are none of the GUESSES");
        SlideWorks x = alike(2);
        x.shown(0, 0, 0, 180, 1, 0, 181);
        due.is("10 apart", truth(181) - truth(180), 10);
        due.is("fits by 12", x.guess(0, 1, 0, 0), -2);
        x.steps(0, 9);
        due.is("not by 9", x.guess(0, 1, 0, 0), 0);
        x.steps(1, 9);
        due.is("by 10", x.guess(0, 1, 0, 0), -2);
        x.flaw(0, 0, 4, 20);
        due.is("whatever is cut", x.guess(0, 1, 0, 0), -2);
        due.is("odd", x.odd(0, 1), 0);
    }

    private void scalesOfNow() {
        due.promise("a SCALE that comes later has GUESSES too");
        SlideWorks x = alike(2);
        x.shown(0, 0, 0, 200, 1, 0, 200);
        int fits = x.guesses(0, 1);
        due.is("by 12", fits, 1 + 2 * EACH - 2 * 16);
        x.scale(0, true, 1, false);
        due.is("a third", x.guesses(0, 1), fits + EACH);
        guess(x, 1, fits, 2, 0, -20);
        guess(x, 1, fits + EACH - 1, 2, 15, 20);
        guess(x, 1, fits + EACH, -1000, -1000, -1000);
    }

    private void sureOnes() {
        due.promise("sure: -2: none (also if none FITS, or the TRUE one does)");
        SlideWorks x = alike(3);
        due.is("no facts: the TRUE one fits", x.sure(0, 0), -2);
        // 200 and 202 are 17 apart: 5 to 20 in either scale.
        x.shown(0, 0, 0, 200, 1, 0, 202);
        due.is("either of two", x.sure(0, 1), -2);
        due.is("guesses", x.guesses(0, 1), 32);
        x.shown(0, 0, 0, 200, 2, 0, 202);
        due.is("scale 0", x.sure(0, 2), 0);
        x.shown(0, 0, 0, 200, 2, 0, 900);
        due.is("none fits", x.sure(0, 3), -2);
        due.is("guesses", x.guesses(0, 3), 0);
        x.strike(2);
        due.is("scale 0 again", x.sure(0, 4), 0);
        x.strike(0);
        due.is("either of 0 and 2", x.sure(0, 5), -2);
        x.shown(0, 1, 0, 200, 2, 0, 202);
        due.is("scale 2", x.sure(0, 6), 2);
        x.steps(7, 10);
        due.is("the TRUE one fits", x.sure(0, 6), -2);
        x.steps(6, 10);
        due.is("just not", x.sure(0, 6), 2);
        SlideWorks y = alike(8);
        y.shown(0, 7, 0, 200, 0, 0, 202);
        y.shown(0, 7, 0, 200, 6, 0, 202);
        due.is("the eighth", y.sure(0, 2), 7);
    }

    private void oddOnes() {
        due.promise("odd: without which the most GUESSES FIT (of alike ones the first); NONE: there is none");
        SlideWorks x = alike(3);
        due.is("none", x.odd(0, 0), -1);
        x.shown(0, 0, 0, 200, 1, 0, 200);
        due.is("a single one that fits", x.odd(0, 1), 0);
        x.shown(0, 0, 0, 200, 1, 0, 200);
        due.is("of alike ones the first", x.odd(0, 2), 0);
        x.shown(0, 0, 0, 200, 1, 0, 900);
        due.is("the one that none fits", x.odd(0, 3), 2);
        x.shown(0, 0, 0, 300, 1, 0, 900);
        due.is("two that none fits: all alike, none fits either way", x.odd(0, 4), 0);
        x.strike(0);
        due.is("the first of those that are left", x.odd(0, 5), 1);
        x.strike(1);
        x.strike(2);
        due.is("one left", x.odd(0, 7), 3);
        x.strike(3);
        due.is("none left", x.odd(0, 8), -1);
        // Without 8 the 32 guesses of 9 fit, without 9 the many of 8.
        x.shown(0, 0, 0, 300, 2, 0, 300);
        x.shown(0, 0, 0, 200, 2, 0, 202);
        due.is("the one that fits worse", x.odd(0, 10), 9);
        due.is("as known by 9", x.odd(0, 9), 8);
    }
}
