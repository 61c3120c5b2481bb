/** Boundaries of part II: a rule in hand; promises 13 to 18. */
final class EdgeHand {
    private static final int MIN = Integer.MIN_VALUE;
    private static final int MAX = Integer.MAX_VALUE;

    // The scales of the rule that is used here: with flaws the hair comes to any place near to both ends.
    private static final int D = 0;
    private static final int TURNED = 1;
    private static final int C = 2;
    private static final int B = 3;

    private final Due due;

    EdgeHand(Due due) {
        this.due = due;
    }

    void test() {
        nothingInHand();
        taking();
        doubtsOfHair();
        doubtsOfSlide();
        hairAtTheEnds();
        hairOfTheSlideAtTheEnds();
        slideAtTheEnds();
        indexAtTheEnds();
        foldsOfTheSlide();
        lookAtTheEnds();
        lookWithin();
        noSuchOnes();
        states();
        manyCalls();
    }

    private static SlideWorks works() {
        SlideWorks x = new SlideWorks();
        x.rule();
        x.scale(0, true, 1, false);
        x.scale(0, true, 1, true);
        x.scale(0, false, 1, false);
        x.scale(0, false, 1, true);
        x.take(0);
        return x;
    }

    private void stands(SlideWorks x, String when, int s, int h, int u, int v) {
        int[] all = {s, h, u, v};
        for (int i = 0; i < 4; i++) {
            due.is("state " + (i + 1) + ", " + when, x.state(i + 1), all[i]);
        }
    }

    private void nothingInHand() {
        due.promise("nothing in hand");
        SlideWorks x = new SlideWorks();
        for (int turn = 0; turn < 2; turn++) {
            due.is("hair", x.hair(0, 200, 0), -1);
            due.is("slide", x.slide(0, 200, 0), -5000);
            due.is("index left", x.index(false), -5000);
            due.is("index right", x.index(true), -5000);
            due.is("look", x.look(0, 0), -1);
            due.is("run", x.run(), -1);
            for (int what = -1; what <= 5; what++) {
                due.is("state " + what, x.state(what), -5000);
            }
            due.is("take of none", x.take(turn), false);
            x.rule();
            x.scale(0, turn == 0, 1, false);
        }
        due.is("broke", x.broke(), 0);
        due.is("where", x.where(), -1);
    }

    private void taking() {
        due.promise("take: s, h, u, v 0; false: there is none such");
        SlideWorks x = works();
        stands(x, "at first", 0, 0, 0, 0);
        x.hair(D, 300, 0);
        x.slide(C, 200, 0);
        x.hair(C, 200, 0);
        stands(x, "moved", 721, 1954, 4, 6);
        for (int rule : new int[] {-1, 1, 4, MIN, MAX}) {
            due.is("take " + rule, x.take(rule), false);
            stands(x, "behind take " + rule, 721, 1954, 4, 6);
            due.is("rule in hand", x.state(0), 0);
        }
        due.is("take again", x.take(0), true);
        stands(x, "taken again", 0, 0, 0, 0);
        x.hair(D, 300, 0);
        x.rule();
        due.is("take another", x.take(1), true);
        stands(x, "another", 0, 0, 0, 0);
        due.is("its number", x.state(0), 1);
        due.is("take the first", x.take(0), true);
        stands(x, "the first again", 0, 0, 0, 0);
    }

    private void doubtsOfHair() {
        due.promise("hair: v is HAND, and u more if it is on the SLIDE");
        for (int hand = 0; hand <= 20; hand += 20) {
            SlideWorks x = works();
            x.steps(hand, 9);
            due.is("hair", x.hair(D, 500, 0), 2862);
            stands(x, "on the body", 0, 2862, 0, hand);
            due.is("slide", x.slide(C, 500, 0), 0);
            stands(x, "slide", 0, 2862, 2 * hand, hand);
            due.is("hair", x.hair(D, 500, 0), 2862);
            stands(x, "on the body, whatever u", 0, 2862, 2 * hand, hand);
            due.is("hair", x.hair(C, 500, 0), 2862);
            stands(x, "on the slide", 0, 2862, 2 * hand, 3 * hand);
            due.is("hair", x.hair(C, 500, 0), 2862);
            stands(x, "on the slide again", 0, 2862, 2 * hand, 3 * hand);
        }
    }

    private void doubtsOfSlide() {
        due.promise("slide, index: u is v and HAND");
        SlideWorks x = works();
        due.is("index", x.index(false), 0);
        stands(x, "index with v 0", 0, 0, 2, 0);
        due.is("index", x.index(true), -4096);
        stands(x, "index again: not more", -4096, 0, 2, 0);
        x.take(0);
        x.hair(D, 500, 0);
        x.slide(C, 500, 0);
        x.hair(C, 500, 0);
        x.steps(20, 10);
        due.is("slide", x.slide(C, 400, 0), 396);
        stands(x, "u is v of before and the new HAND", 396, 2862, 26, 6);
        due.is("index", x.index(true), 2862 - 4096);
        stands(x, "index likewise", 2862 - 4096, 2862, 26, 6);
    }

    private void hairAtTheEnds() {
        due.promise("A h outside 0 .. 4096 FALLS OFF, on the body");
        SlideWorks x = works();
        x.hair(D, 500, 0);
        x.flaw(0, D, 0, -1);
        due.is("-1", x.hair(D, 100, 0), -1);
        stands(x, "behind -1", 0, 2862, 0, 2);
        due.is("101 at 16", x.hair(D, 101, 0), 16);
        x.flaw(0, D, 0, -18);
        due.is("101 at -1", x.hair(D, 101, 0), -1);
        stands(x, "behind 101 at -1", 0, 16, 0, 2);
        x.flaw(0, D, 0, -17);
        due.is("101 at 0", x.hair(D, 101, 0), 0);
        stands(x, "behind 101 at 0", 0, 0, 0, 2);
        x.flaw(0, D, 15, 3);
        due.is("4097", x.hair(D, 999, 0), -1);
        stands(x, "behind 4097", 0, 0, 0, 2);
        x.flaw(0, D, 15, 2);
        due.is("4096", x.hair(D, 999, 0), 4096);
        stands(x, "behind 4096", 0, 4096, 0, 2);
        due.is("turned, 100 at 4096", x.hair(TURNED, 100, 0), 4096);
        x.flaw(0, TURNED, 15, 1);
        due.is("turned, 100 at 4097", x.hair(TURNED, 100, 0), -1);
        x.flaw(0, TURNED, 0, -2);
        due.is("turned, 999 at 0", x.hair(TURNED, 999, 0), 0);
        x.flaw(0, TURNED, 0, -3);
        due.is("turned, 999 at -1", x.hair(TURNED, 999, 0), -1);
    }

    /** Brings the slide to a small s by the turned scale's 999, at 2 where true. */
    private void slideTo(SlideWorks x, int s) {
        x.flaw(0, TURNED, 0, s - 2);
        x.hair(TURNED, 999, 0);
        due.is("the slide to " + s, x.index(false), s);
    }

    /** Brings the slide to a small s below 0 by D's 999, at 4094 where true. */
    private void slideBelow(SlideWorks x, int s) {
        x.flaw(0, D, 15, s + 2);
        x.hair(D, 999, 0);
        due.is("the slide to " + s, x.index(true), s);
    }

    private void hairOfTheSlideAtTheEnds() {
        due.promise("A h outside 0 .. 4096 FALLS OFF, on the slide");
        SlideWorks x = works();
        slideTo(x, 2);
        due.is("999 of C at 4096", x.hair(C, 999, 0), 4096);
        stands(x, "at 4096", 2, 4096, 4, 6);
        slideTo(x, 3);
        due.is("999 of C at 4097", x.hair(C, 999, 0), -1);
        stands(x, "behind 4097", 3, 3, 4, 2);
        slideTo(x, 0);
        due.is("100 of C at 0", x.hair(C, 100, 0), 0);
        due.is("100 of B at 4096", x.hair(B, 100, 0), 4096);
        slideTo(x, 1);
        due.is("100 of B at 4097", x.hair(B, 100, 0), -1);
        slideBelow(x, -1);
        due.is("100 of C at -1", x.hair(C, 100, 0), -1);
        stands(x, "behind -1", -1, 4095, 4, 2);
        due.is("101 of C at 16", x.hair(C, 101, 0), 16);
        slideBelow(x, -2);
        due.is("999 of B at 0", x.hair(B, 999, 0), 0);
        slideBelow(x, -3);
        due.is("999 of B at -1", x.hair(B, 999, 0), -1);
    }

    private void slideAtTheEnds() {
        due.promise("a s outside -4096 .. 4096 FALLS OFF");
        SlideWorks x = works();
        x.flaw(0, C, 15, 2);
        due.is("-4096", x.slide(C, 999, 0), -4096);
        stands(x, "at -4096", -4096, 0, 2, 0);
        x.flaw(0, C, 15, 3);
        due.is("-4097", x.slide(C, 999, 0), -5000);
        stands(x, "behind -4097", -4096, 0, 2, 0);
        due.is("B, -4096", x.slide(B, 100, 0), -4096);
        x.flaw(0, B, 15, 1);
        due.is("B, -4097", x.slide(B, 100, 0), -5000);
        x.flaw(0, B, 15, -1);
        due.is("B, -4095", x.slide(B, 100, 0), -4095);
        due.is("hair to 4096", x.hair(TURNED, 100, 0), 4096);
        due.is("4096", x.slide(C, 100, 0), 4096);
        stands(x, "at 4096", 4096, 4096, 4, 2);
        x.flaw(0, C, 0, -1);
        due.is("4097", x.slide(C, 100, 0), -5000);
        x.flaw(0, B, 0, -2);
        due.is("B, 4096", x.slide(B, 999, 0), 4096);
        x.flaw(0, B, 0, -3);
        due.is("B, 4097", x.slide(B, 999, 0), -5000);
        stands(x, "behind 4097", 4096, 4096, 4, 2);
    }

    private void indexAtTheEnds() {
        due.promise("index: the SLIDE's end, 0 or 4096 of it, stands at h");
        SlideWorks x = works();
        // The ends themselves are not cut: flaws do not move them.
        x.flaw(0, C, 0, 20);
        x.flaw(0, C, 15, -20);
        due.is("h 0, left", x.index(false), 0);
        due.is("h 0, right", x.index(true), -4096);
        x.hair(TURNED, 100, 0);
        due.is("h 4096, right", x.index(true), 0);
        due.is("h 4096, left", x.index(false), 4096);
        x.hair(D, 500, 0);
        due.is("between, left", x.index(false), 2862);
        due.is("between, right", x.index(true), -1234);
        SlideWorks bare = new SlideWorks();
        bare.rule();
        bare.take(0);
        due.is("a rule without scales, right", bare.index(true), -4096);
        due.is("a rule without scales, left", bare.index(false), 0);
    }

    private void foldsOfTheSlide() {
        due.promise("the MARK of a NUMBER on a SCALE of the SLIDE, by FOLD");
        SlideWorks x = new SlideWorks();
        x.rule();
        x.scale(0, true, 1, true);
        x.scale(0, false, 2, false);
        x.scale(0, false, 3, true);
        x.take(0);
        x.hair(0, 100, 0);
        for (int e = -99; e <= 99; e++) {
            int two = EdgeTest.truth((e + 200) % 2, 300, 2, false);
            due.is("slide of place " + e + " on fold 2", x.slide(1, 300, e), 4096 - two);
            int three = EdgeTest.truth((e + 300) % 3, 300, 3, true);
            due.is("slide of place " + e + " on fold 3, turned", x.slide(2, 300, e), 4096 - three);
        }
    }

    private void lookAtTheEnds() {
        due.promise("An x outside 0 .. 4096 shows nothing");
        SlideWorks x = works();
        due.is("body at 0", x.look(D, 0), 100);
        due.is("slide at 0", x.look(C, 0), 100);
        x.hair(TURNED, 100, 0);
        due.is("body at 4096", x.look(D, 0), 1100);
        due.is("slide at 4096", x.look(C, 0), 1100);
        due.is("turned slide at 4096", x.look(B, 0), 100);
        // s 2 and h 2, 1, 3: x 0, -1, 1.
        slideTo(x, 2);
        due.is("x 0", x.look(C, 0), 100);
        due.is("x 0, turned", x.look(B, 0), 1100);
        x.flaw(0, TURNED, 0, -1);
        due.is("hair to 1", x.hair(TURNED, 999, 0), 1);
        for (int what = 0; what < 3; what++) {
            due.is("x -1, " + what, x.look(C, what), -1);
            due.is("x -1, turned, " + what, x.look(B, what), -1);
        }
        due.is("the body shows", x.look(D, 0), 100);
        slideBelow(x, -2);
        x.flaw(0, D, 15, 0);
        due.is("hair to 4094", x.hair(D, 999, 0), 4094);
        due.is("x 4096", x.look(C, 0), 1100);
        x.flaw(0, D, 15, 1);
        due.is("hair to 4095", x.hair(D, 999, 0), 4095);
        for (int what = 0; what < 3; what++) {
            due.is("x 4097, " + what, x.look(C, what), -1);
        }
        due.is("the body shows there", x.look(D, 0), 999);
        x.take(0);
        x.index(true);
        due.is("s -4096, h 0", x.look(C, 0), 1100);
        x.hair(TURNED, 100, 0);
        due.is("s -4096, h 4096", x.look(C, 0), -1);
        x.index(false);
        due.is("s 4096, h 4096", x.look(C, 0), 100);
        x.hair(D, 100, 0);
        due.is("s 4096, h 0", x.look(C, 0), -1);
    }

    private void lookWithin() {
        due.promise("look: within EYE and v, on the SLIDE EYE, u and v");
        SlideWorks x = null;
        for (int eye = 9; eye <= 40; eye++) {
            if (eye % 15 == 9) {
                x = works();
            }
            int hand = eye % 21;
            x.take(0);
            x.steps(hand, eye);
            x.hair(D, 500, 0);
            within(x, D, eye + hand, 2862);
            within(x, C, eye + hand, 2862);
            x.slide(C, 450, 0);
            int s = 2862 - EdgeTest.units(450);
            within(x, D, eye + hand, 2862);
            within(x, C, eye + 3 * hand, 2862 - s);
            x.hair(C, 300, 0);
            within(x, D, eye + 3 * hand, s + 1954);
            within(x, C, eye + 5 * hand, 1954);
        }
    }

    private void within(SlideWorks x, int scale, int q, int at) {
        int low = 100;
        while (EdgeTest.units(low) < at - q) {
            low++;
        }
        int high = 999;
        while (EdgeTest.units(high) > at + q) {
            high--;
        }
        due.is("low of " + scale + " within " + q + " of " + at, x.look(scale, 1), low);
        due.is("high of " + scale + " within " + q + " of " + at, x.look(scale, 2), high);
    }

    private void noSuchOnes() {
        due.promise("hair, slide, look: no such ones");
        SlideWorks x = works();
        x.rule();
        x.scale(1, true, 1, false);
        x.hair(D, 300, 0);
        for (int scale : new int[] {-1, 4, 7, 8, MIN, MAX}) {
            due.is("hair of scale " + scale, x.hair(scale, 200, 0), -1);
            due.is("slide of scale " + scale, x.slide(scale, 200, 0), -5000);
            due.is("look at scale " + scale, x.look(scale, 0), -1);
        }
        due.is("slide of D", x.slide(D, 200, 0), -5000);
        due.is("slide of a turned one of the body", x.slide(TURNED, 200, 0), -5000);
        for (int what : new int[] {-1, 3, MIN, MAX}) {
            due.is("look " + what, x.look(D, what), -1);
        }
        stands(x, "behind all these", 0, 1954, 0, 2);
        x.take(1);
        due.is("the other rule has a scale 0", x.hair(0, 200, 0), 1233);
        due.is("and no scale 1", x.hair(1, 200, 0), -1);
        due.is("no slide there", x.slide(2, 200, 0), -5000);
        due.is("no look there", x.look(3, 0), -1);
    }

    private void states() {
        due.promise("state: -5000: no such one");
        SlideWorks x = works();
        for (int what : new int[] {-1, 5, 6, MIN, MAX}) {
            due.is("state " + what, x.state(what), -5000);
        }
        // A state may be -1 or -4096: that is none of the answers for what is not there.
        slideBelow(x, -1);
        due.is("s -1", x.state(1), -1);
    }

    private void manyCalls() {
        due.promise("at most 512 calls after it has been made");
        SlideWorks x = new SlideWorks();
        x.rule();
        x.scale(0, true, 1, false);
        x.scale(0, false, 1, false);
        x.take(0);
        x.steps(20, 40);
        int u = 0;
        int v = 0;
        for (int call = 6; call <= 508; call += 2) {
            due.is("slide", x.slide(1, 100, 0), 0);
            u = v + 20;
            due.is("hair", x.hair(1, 100, 0), 0);
            v = u + 20;
        }
        due.is("call 510", x.state(3), u);
        due.is("call 511", x.look(0, 2), 1100);
        due.is("call 512", x.state(4), v);
        due.is("doubts by hand have no end", v, 40 * 252);
    }
}
