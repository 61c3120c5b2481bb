/** The promises of runs: 19 to 23. */
final class RunPromises {
    private static final int D = 0;
    private static final int C = 1;
    private static final int A = 2;
    private static final int B = 4;

    private static Due due;

    private RunPromises() {
    }

    static void test(Due counter) {
        due = counter;
        numbers();
        powers();
        products();
        doubts();
        beginnings();
        repeats();
        choices();
        tooLong();
        noScale();
        beyond();
        tooDoubtful();
        fallsOff();
        noValue();
        whatStays();
        valueArguments();
    }

    /** A run on a full rule that comes to its end. */
    private static SlideWorks runs(String text, int slides, int hairs) {
        SlideWorks x = PromiseTest.full();
        due.is("read '" + text + "'", Texts.read(x, text), 0);
        due.is("run of '" + text + "'", x.run(), slides);
        due.is("moves of '" + text + "'", x.moves(), hairs);
        return x;
    }

    private static void number(SlideWorks x, String text, int name, int digits, int place) {
        due.is("digits of " + name + " in '" + text + "'", x.value(name, 0), digits);
        due.is("place of " + name + " in '" + text + "'", x.value(name, 1), place);
    }

    private static void all(SlideWorks x, String text, int name, int... six) {
        for (int i = 0; i < six.length; i++) {
            due.is("part " + i + " of " + name + " in '" + text + "'", x.value(name, i), six[i]);
        }
    }

    private static void hasState(SlideWorks x, String text, int s, int h, int u, int v) {
        int[] all = {s, h, u, v};
        for (int i = 0; i < all.length; i++) {
            due.is("state " + (i + 1) + " behind '" + text + "'", x.state(i + 1), all[i]);
        }
    }

    /** The value of the first name of a program without a break. */
    private static void comes(String text, int slides, int hairs, int digits, int place) {
        number(runs(text, slides, hairs), text, 0, digits, place);
    }

    private static void breaks(SlideWorks x, String text, int why, int where) {
        due.is("read '" + text + "'", Texts.read(x, text), 0);
        due.is("run of '" + text + "'", x.run(), -2);
        due.is("broke of '" + text + "'", x.broke(), why);
        due.is("where of '" + text + "'", x.where(), where);
    }

    private static void breaks(String text, int why, int where) {
        breaks(PromiseTest.full(), text, why, where);
    }

    private static void numbers() {
        due.promise("promises 19, 22, 23, numbers");
        String[] texts = {"1", "2", "12", "123", "1234", "9999", "1000", "0.5", "0.05", "0.0001", "0.1234", "10.5", "105.55",
            "007", "0100", "00.0120", "1.0", "3.0001", "9.999", "0.0999"};
        int[][] want = {{100, 0}, {200, 0}, {120, 1}, {123, 2}, {123, 3}, {999, 3}, {100, 3}, {500, -1}, {500, -2},
            {100, -4}, {123, -1}, {105, 1}, {105, 2}, {700, 0}, {100, 2}, {120, -2}, {100, 0}, {300, 0}, {999, 0}, {999, -2}};
        for (int i = 0; i < texts.length; i++) {
            comes("let a=" + texts[i] + ";", 0, 1, want[i][0], want[i][1]);
        }
        String text = "let a=2;";
        SlideWorks x = runs(text, 0, 1);
        all(x, text, 0, 200, 0, 199, 0, 201, 0);
        hasState(x, text, 0, 1233, 0, 2);
        text = "let a=9999;";
        all(runs(text, 0, 1), text, 0, 999, 3, 993, 3, 100, 4);
        runs("", 0, 0);
    }

    private static void powers() {
        due.promise("promises 19, 23, powers");
        comes("let a=square 3;", 0, 2, 900, 0);
        comes("let a=square 4;", 0, 2, 160, 1);
        comes("let a=square 0.04;", 0, 2, 160, -3);
        comes("let a=square 300;", 0, 2, 900, 4);
        comes("let a=cube 2;", 0, 2, 800, 0);
        comes("let a=cube 3;", 0, 2, 270, 1);
        comes("let a=cube 5;", 0, 2, 125, 2);
        comes("let a=cube 0.5;", 0, 2, 125, -1);
        comes("let a=root 4;", 0, 2, 200, 0);
        comes("let a=root 40;", 0, 2, 633, 0);
        comes("let a=root 0.4;", 0, 2, 633, -1);
        comes("let a=root 0.04;", 0, 2, 200, -1);
        comes("let a=root 0.004;", 0, 2, 633, -2);
        comes("let a=third 8;", 0, 2, 200, 0);
        comes("let a=third 80;", 0, 2, 431, 0);
        comes("let a=third 800;", 0, 2, 928, 0);
        comes("let a=third 8000;", 0, 2, 200, 1);
        comes("let a=third 0.8;", 0, 2, 928, -1);
        comes("let a=third 0.08;", 0, 2, 431, -1);
        comes("let a=third 0.008;", 0, 2, 200, -1);
        comes("let a=over 4;", 0, 2, 250, -1);
        comes("let a=over 40;", 0, 2, 250, -2);
        comes("let a=over 0.4;", 0, 2, 250, 0);
        comes("let a=over 1;", 0, 2, 100, 0);
        comes("let a=over 9.99;", 0, 2, 100, -1);
        String text = "let a=square 3*1;";
        SlideWorks x = runs(text, 1, 3);
        number(x, text, 0, 900, 0);
        // On A 888 to 912 are within 12 of 9: its LOOSE is 24.
        hasState(x, text, 3908, 3908, 2 + 24 + 2, 2 + 24 + 2 + 2);
    }

    private static void products() {
        due.promise("promises 19, 22, 23, products");
        comes("let a=2*3;", 1, 2, 600, 0);
        comes("let a=2*6;", 2, 2, 120, 1);
        comes("let a=20*0.06;", 2, 2, 120, 0);
        comes("let a=6/3;", 1, 2, 200, 0);
        comes("let a=2/3;", 1, 2, 667, -1);
        comes("let a=2/300;", 1, 2, 667, -3);
        comes("let a=2/0.03;", 1, 2, 667, 1);
        comes("let a=3/3;", 1, 2, 100, 0);
        comes("let a=2/3*6;", 1, 3, 400, 0);
        comes("let a=2/3*1.2;", 2, 3, 800, -1);
        comes("let a=6/2*9;", 2, 3, 270, 1);
        comes("let a=6/2*2;", 1, 3, 600, 0);
        comes("let a=2*3*5;", 3, 3, 300, 1);
        comes("let a=8/2/2;", 2, 3, 200, 0);
        comes("let a=1/2/2;", 2, 3, 250, -1);
        comes("let a=2/3*6*2;", 2, 4, 800, 0);
        comes("let a=2*3/4;", 2, 3, 150, 0);
        comes("let a=2/4*square 3;", 1, 4, 450, 0);
        comes("let a=3/3*2;", 1, 3, 200, 0);
        // 101 and 991 are 4096 together: the mark stands at the end, not beyond.
        comes("let a=1.01*9.91;", 1, 2, 100, 1);
        comes("let a=1.01*9.92;", 2, 2, 100, 1);
        // 995 and 996 are 1 apart: the slide's end stands 1 below 0.
        comes("let a=9.95/9.96;", 1, 2, 999, -1);
        comes("let a=9.95/9.96*2;", 1, 3, 200, 0);
        comes("let a=9.95/9.96*1;", 2, 3, 999, -1);
        String text = "let a=2*3;";
        SlideWorks x = runs(text, 1, 2);
        hasState(x, text, 1233, 3187, 4, 6);
        all(x, text, 0, 600, 0, 595, 0, 605, 0);
        text = "let a=2*6;";
        x = runs(text, 2, 2);
        hasState(x, text, 1233 - 4096, 1233 - 4096 + 3187, 6, 8);
        text = "let a=2/3;";
        x = runs(text, 1, 2);
        hasState(x, text, -721, 4096 - 721, 4, 6);
        text = "let a=6/3;";
        x = runs(text, 1, 2);
        hasState(x, text, 1233, 1233, 4, 6);
        text = "let a=2/3*1.2;";
        x = runs(text, 2, 3);
        hasState(x, text, 4096 - 721, 4096 - 721 + x.units(120), 6, 8);
        text = "let a=2/3*6;";
        x = runs(text, 1, 3);
        hasState(x, text, -721, 3187 - 721, 4, 6);
    }

    private static void doubts() {
        due.promise("promises 19, 23, doubts");
        String text = "let a=2;let b=a;let c=b*a;let d=c/a;";
        SlideWorks x = runs(text, 2, 6);
        all(x, text, 0, 200, 0, 199, 0, 201, 0);
        // LOOSE of a is 9, so b is read within 2 + 9 + 10.
        all(x, text, 1, 200, 0, 198, 0, 202, 0);
        // LOOSE of b is 18: v 20, u 22, v 2 + 22 + 9, within 43.
        all(x, text, 2, 400, 0, 391, 0, 410, 0);
        // LOOSE of c is 43: v 45, u 2 + 45 + 9, v 58, within 68.
        all(x, text, 3, 200, 0, 193, 0, 207, 0);
        hasState(x, text, x.units(400) - x.units(200), 1233, 56, 58);
        // LOOSE of a is 11: on A 6, rounded up, by which 126 comes to be within; on K 4.
        text = "let a=1.62;let b=root a;";
        x = runs(text, 0, 3);
        all(x, text, 1, 127, 0, 126, 0, 128, 0);
        due.is("v behind '" + text + "'", x.state(4), 16);
        text = "let a=161;let b=third a;";
        x = runs(text, 0, 3);
        all(x, text, 1, 544, 0, 536, 0, 552, 0);
        due.is("v behind '" + text + "'", x.state(4), 18);
        text = "if 1<2 let a=2;let b=square root a;end";
        SlideWorks y = PromiseTest.full();
        due.is("two words", Texts.read(y, text), 1);
    }

    private static void beginnings() {
        due.promise("promise 19, with what the rule in hand has");
        SlideWorks x = PromiseTest.full();
        x.hair(D, 200, 0);
        x.slide(C, 100, 0);
        due.is("u", x.state(3), 4);
        String text = "let a=over 4;";
        due.is("read", Texts.read(x, text), 0);
        due.is("run", x.run(), 0);
        // Hair to 4 on C, at 1233 and 2466, v 6; on B 248 to 252 are within 20 of 0.25: its LOOSE is 15.
        number(x, text, 0, 250, -1);
        hasState(x, text, 1233, 1629, 4, 17);
        x.take(0);
        x.hair(D, 200, 0);
        x.slide(C, 100, 0);
        Texts.read(x, "let a=3/over 4;");
        due.is("run", x.run(), 1);
        number(x, "3/over 4", 0, 120, 1);
        due.is("run again, from where it stands", x.run(), 1);
        Texts.read(x, "let a=9/over 4;");
        due.is("run", x.run(), 1);
        due.is("s", x.state(1), 3908 - 1629);
        due.is("run again", x.run(), -2);
        due.is("the hair falls off at 4 of the slide", x.broke(), 5);
        x.index(false);
        due.is("the state of before", x.state(1), x.state(2));
        due.is("two turned scales", x.scale(0, false, 1, true), 5);
        due.is("a second D", x.scale(0, true, 1, false), 6);
        due.is("a flaw of the second D", x.flaw(0, 6, 4, 20), true);
        x.take(0);
        Texts.read(x, "let a=2;");
        x.run();
        due.is("the first D is D", x.state(2), 1233);
    }

    private static void repeats() {
        due.promise("promise 19, repeat");
        comes("let a=1;repeat 3 let a=a*2;end", 3, 7, 800, 0);
        comes("let a=1;repeat 0 let a=a*2;end", 0, 1, 100, 0);
        comes("let a=1;repeat 1 let a=a*2;end", 1, 3, 200, 0);
        comes("let a=1;repeat 2 repeat 2 let a=a*1.2;end end", 4, 9, 208, 0);
        comes("let a=1;repeat 2 repeat 2 end let a=a*1.2;end", 2, 5, 144, 0);
        comes("let a=1;repeat 2 repeat 0 let a=3;end let a=a*2;end", 2, 5, 400, 0);
        comes("let a=1;repeat 2 if a<2 let a=a*2;else let a=a*3;end end", 2, 5, 600, 0);
        comes("repeat 2 end let a=3;", 0, 1, 300, 0);
    }

    private static void choice(String condition, boolean holds) {
        String text = "let a=2;let b=2;let c=2.01;" + "if " + condition + " let d=3; else let d=4; end";
        number(runs(text, 0, 4), text, 3, holds ? 300 : 400, 0);
        text = "let a=2;let b=2;let c=2.01;let d=4;if " + condition + " let d=3; end";
        number(runs(text, 0, holds ? 5 : 4), text, 3, holds ? 300 : 400, 0);
    }

    private static void choices() {
        due.promise("promise 19, if");
        choice("1<2", true);
        choice("2<1", false);
        choice("2<2", false);
        choice("2==2", true);
        choice("2==2.00", true);
        choice("2==3", false);
        choice("2==20", false);
        choice("9<10", true);
        choice("10<9", false);
        choice("0.9<1", true);
        choice("a==2", true);
        choice("a==b", true);
        choice("a<c", true);
        choice("c<a", false);
        choice("a<b", false);
        choice("surely a<c", false);
        choice("surely a<2.01", false);
        choice("surely a<2.02", true);
        choice("surely 1.99<a", false);
        choice("surely 1.98<a", true);
        choice("surely a==b", false);
        choice("surely a==a", false);
        choice("surely a==2", false);
        choice("surely 2==a", false);
        choice("surely 2==2", true);
        choice("surely 2==3", false);
        choice("surely 2<3", true);
        choice("surely 2<2", false);
        comes("let a=1;if 1<2 else let a=2; end", 0, 1, 100, 0);
        comes("let a=1;if 2<1 else let a=2; end", 0, 2, 200, 0);
        comes("let a=1;if 2<1 if 1<2 let a=5; else let a=6; end else let a=2; end", 0, 2, 200, 0);
        comes("let a=1;if 2<1 repeat 3 let a=5; end end", 0, 1, 100, 0);
    }

    private static void tooLong() {
        due.promise("promises 20, 21, too long");
        String most = "repeat 99 end repeat 99 end ";
        runs(most + "repeat 2 end", 0, 0);
        breaks(most + "repeat 3 end", 1, 28);
        breaks(most + "repeat 2 end repeat 0 end", 1, 41);
        breaks(most + "repeat 2 end if 1<2 end", 1, 41);
        breaks(most + "repeat 2 end let a=1;", 1, 41);
        breaks(most + "repeat 1 end let a=1;", 1, 41);
        runs(most + "let a=1;", 0, 1);
        breaks(most + "let a=1*2;", 1, 28);
        breaks(most + "if 1<2 end let a=1;", 1, 39);
        runs(most + "if 1<2 end if 1<2 end", 0, 0);
        breaks(most + "if 1<2 end if 1<2 end if 1<2 end", 1, 50);
        runs(most + "repeat 0 let a=1; end repeat 0 end", 0, 0);
        breaks("repeat 99 repeat 2 end end", 1, 10);
        breaks("repeat 99 repeat 1 end end let a=1;let b=2;", 1, 35);
        breaks("repeat 99 repeat 0 end end repeat 2 end let a=1;", 1, 40);
        runs("repeat 99 repeat 0 end end let a=1;", 0, 1);
        breaks("repeat 67 if 1<2 if 2<3 end end end", 1, 17);
        breaks("if 1<2 repeat 99 repeat 0 end end end repeat 3 end", 1, 38);
        breaks("repeat 99 let a=1; end", 1, 10);
        breaks("repeat 99 if 1<2 end if 1<2 end if 1<2 end end", 1, 0);
        runs("repeat 66 let a=1; end", 0, 66);
        runs("let a=1;".repeat(80), 0, 80);
        SlideWorks x = PromiseTest.full();
        breaks(x, most + "let a=1*2;", 1, 28);
        hasState(x, "broke", 0, 0, 0, 0);
        // The places of the powers count as they come: the 201st comes ahead of a name without a value.
        breaks(most + "repeat 0 let a=1; end let b=a;", 1, 50);
        breaks("repeat 99 end repeat 97 end repeat 0 let a=1; end let b=1*a;", 6, 50);
        breaks("repeat 99 end repeat 98 end repeat 0 let a=1; end let b=1*a;", 1, 50);
    }

    private static SlideWorks without(int missing) {
        SlideWorks x = new SlideWorks();
        x.rule();
        for (int i = 0; i < 5; i++) {
            if (i != missing) {
                x.scale(0, i != C && i != B, i == A ? 2 : i == 3 ? 3 : 1, i == B);
            }
        }
        x.take(0);
        return x;
    }

    private static void noScale() {
        due.promise("promises 20, 21, no such scale");
        breaks(without(D), "let a=2;", 2, 0);
        breaks(without(D), " let a=square 2;", 2, 1);
        breaks(without(D), "let a=cube 2;", 2, 0);
        breaks(without(D), "let a=root 2;", 2, 0);
        breaks(without(D), "let a=third 2;", 2, 0);
        breaks(without(C), "let a=2*3;", 2, 0);
        breaks(without(C), "let a=2/3;", 2, 0);
        breaks(without(C), "let b=2;let a=over 3;", 2, 8);
        breaks(without(A), "let a=square 3;", 2, 0);
        breaks(without(A), "let a=root 3;", 2, 0);
        breaks(without(3), "let a=cube 3;", 2, 0);
        breaks(without(3), "let a=third 3;", 2, 0);
        breaks(without(B), "let a=over 3;", 2, 0);
        SlideWorks x = without(C);
        due.is("read", Texts.read(x, "let a=square 2;let b=third 3;if 1<2 end"), 0);
        due.is("run without C and with no need of it", x.run(), 0);
        x = without(D);
        due.is("read", Texts.read(x, "if 1<2 repeat 3 end end if 2<1 let a=1; end"), 0);
        due.is("run without D and with no need of it", x.run(), 0);
        // It comes to be used behind the hair: that falls off first.
        x = without(A);
        x.flaw(0, D, 0, -1);
        breaks(x, "let a=square 1;", 5, 0);
        // A bare power needs no scale yet, so the name without a value comes first.
        breaks(without(D), "repeat 0 let a=1; end let b=2*a;", 6, 22);
        breaks(without(D), "repeat 0 let a=1; end let b=square a;", 6, 22);
        breaks(without(D), "repeat 0 let a=1; end let b=square 2*a;", 2, 22);
        // Scales that are alike but for one word are not D, C, A, K, B.
        x = new SlideWorks();
        x.rule();
        x.take(0);
        x.scale(0, true, 1, true);
        x.scale(0, false, 2, false);
        x.scale(0, true, 2, true);
        x.scale(0, true, 3, true);
        x.scale(0, false, 2, true);
        breaks(x, "let a=2;", 2, 0);
        x.scale(0, true, 1, false);
        breaks(x, "let a=2*3;", 2, 0);
        breaks(x, "let a=square 2;", 2, 0);
        breaks(x, "let a=cube 2;", 2, 0);
        x.scale(0, false, 1, false);
        breaks(x, "let a=over 2;", 2, 0);
    }

    private static void beyond() {
        due.promise("promises 20, 21, beyond");
        String grow = "let a=1000;let b=cube a;let c=cube b;let d=cube c;";
        String text = grow + "let e=d;";
        SlideWorks x = PromiseTest.full();
        x.steps(0, 9);
        due.is("read", Texts.read(x, text), 0);
        due.is("run", x.run(), 0);
        number(x, text, 3, 100, 81);
        number(x, text, 4, 100, 81);
        x = PromiseTest.full();
        x.steps(0, 9);
        breaks(x, grow + "let e=cube d;", 3, 50);
        breaks(x, grow + "let e=square d;", 3, 50);
        breaks(x, grow + "let e=d*c;", 3, 50);
        breaks(x, grow + "let e=over d;let f=over e;let g=e*e;", 3, 76);
        breaks(x, grow + "let e=over d;let f=square e;", 3, 63);
        due.is("read", Texts.read(x, grow + "let e=b*d*b;"), 0);
        due.is("place 99", x.run(), 2);
        number(x, "b*d*b", 4, 100, 99);
        breaks(x, grow + "let e=b*d*b*10;", 3, 50);
        due.is("read", Texts.read(x, grow + "let e=b*d*b*10/10;"), 0);
        due.is("only what is looked at counts", x.run(), 4);
        String shrink = "let a=0.001;let b=cube a;let c=cube b;let d=cube c;";
        due.is("read", Texts.read(x, shrink + "let e=b*d*b;"), 0);
        due.is("place -99", x.run(), 2);
        number(x, "b*d*b", 4, 100, -99);
        breaks(x, shrink + "let e=b*d*b*0.1;", 3, 51);
        breaks(x, shrink + "let e=b*d*b*0.9;", 3, 51);
        due.is("read", Texts.read(x, shrink + "let e=b*d*b*0.1*10;"), 0);
        due.is("only what is looked at counts", x.run(), 4);
        // Of 9.99 and place 99 the high one is 1 of place 100.
        breaks(x, grow + "let e=b*d*b*9.99;", 3, 50);
        due.is("read", Texts.read(x, grow + "let e=b*d*b*5;"), 0);
        due.is("place 99", x.run(), 3);
    }

    /** Makes u and v grow by hand, 2 at each call. */
    private static SlideWorks doubtful(int turns) {
        SlideWorks x = PromiseTest.full();
        for (int i = 0; i < turns; i++) {
            x.slide(C, 100, 0);
            x.hair(C, 100, 0);
        }
        return x;
    }

    private static void tooDoubtful() {
        due.promise("promises 20, 21, doubts above 999");
        SlideWorks x = doubtful(0);
        x.steps(19, 9);
        for (int i = 0; i < 26; i++) {
            x.slide(C, 100, 0);
            x.hair(C, 100, 0);
        }
        // u is 19 * 51, v 19 * 52.
        due.is("u", x.state(3), 969);
        due.is("v", x.state(4), 988);
        Texts.read(x, "let a=1;");
        due.is("run", x.run(), 0);
        due.is("u stays", x.state(3), 969);
        due.is("v is set", x.state(4), 19);
        x.steps(11, 9);
        x.take(0);
        x.hair(D, 100, 0);
        for (int i = 0; i < 45; i++) {
            x.slide(C, 100, 0);
            x.hair(C, 100, 0);
        }
        due.is("v", x.state(4), 11 * 91);
        x.slide(C, 100, 0);
        due.is("u", x.state(3), 11 * 92);
        breaks(x, "let a=1;", 4, 0);
        due.is("u stays", x.state(3), 1012);
        due.is("v stays", x.state(4), 1001);
        breaks(x, "if 1<2 let a=square 1; end", 4, 7);
        due.is("read", Texts.read(x, "if 1<2 end"), 0);
        due.is("nothing is set", x.run(), 0);
        x.take(0);
        edges(999, true);
        edges(1000, false);
        x = PromiseTest.full();
        breaks(x, "let a=2;repeat 20 let a=a*a; let a=root a; end", 4, 18);
        x = without(C);
        x.scale(0, false, 2, false);
        for (int i = 0; i < 250; i++) {
            x.index(false);
            x.hair(4, 100, 0);
        }
        due.is("u", x.state(3), 998);
        due.is("v", x.state(4), 1000);
        Texts.read(x, "let a=1*2;");
        due.is("run", x.run(), -2);
        due.is("no C behind the index", x.broke(), 2);
        x.take(0);
        x.steps(20, 40);
        // The slide's end comes to the hair ahead of C's use: here with a u of 998 and 20.
        x = without(C);
        x.steps(20, 39);
        breaks(x, "let a=374;repeat 16 let a=a; end let b=a*2;", 4, 33);
        breaks(x, "let a=374;repeat 15 let a=a; end let b=a*2;", 2, 33);
        due.is("read", Texts.read(x, "let a=374;repeat 16 let a=a; end let b=a;"), 0);
        due.is("run", x.run(), 0);
        due.is("v", x.state(4), 998);
        breaks(x, "let a=374;repeat 18 let a=a; end", 4, 20);
        due.is("read", Texts.read(x, "let a=256;repeat 17 let a=a; end"), 0);
        due.is("run", x.run(), 0);
        due.is("a v of 999 is not above it", x.state(4), 999);
    }

    /** A u by hand of so much, then a run that sets the hair. */
    private static void edges(int u, boolean ends) {
        SlideWorks x = PromiseTest.full();
        x.steps(20, 9);
        for (int i = 0; i < 24; i++) {
            x.slide(C, 100, 0);
            x.hair(C, 100, 0);
        }
        due.is("v", x.state(4), 960);
        x.steps(u - 980, 9);
        x.slide(C, 100, 0);
        due.is("u", x.state(3), u - 20);
        x.steps(10, 9);
        x.hair(C, 100, 0);
        x.slide(C, 100, 0);
        due.is("u", x.state(3), u);
        x.steps(0, 9);
        due.is("read", Texts.read(x, "let a=1;"), 0);
        due.is("run with u " + u, x.run(), ends ? 0 : -2);
        due.is("broke", x.broke(), ends ? 0 : 4);
    }

    private static void fallsOff() {
        due.promise("promises 20, 21, falls off");
        SlideWorks x = PromiseTest.full();
        x.flaw(0, D, 0, -5);
        breaks(x, "let b=2;let a=1;", 5, 8);
        breaks(x, "let a=cube 1;", 5, 0);
        x = PromiseTest.full();
        x.flaw(0, A, 0, -5);
        breaks(x, "let a=root 1;", 5, 0);
        x = PromiseTest.full();
        x.flaw(0, C, 0, -5);
        breaks(x, "let a=over 1;", 5, 0);
        due.is("read", Texts.read(x, "let a=1*1;"), 0);
        due.is("the slide moves", x.run(), 2);
        number(x, "1*1", 0, 997, -1);
        hasState(x, "1*1", 4096, 4091, 6, 8);
        x.flaw(0, C, 0, 5);
        x.take(0);
        due.is("read", Texts.read(x, "let a=1/1;"), 0);
        due.is("the end 4096", x.run(), 1);
        hasState(x, "1/1", -5, 4091, 2 + 2, 2 + 4);
        number(x, "1/1", 0, 997, -1);
        x = PromiseTest.full();
        x.flaw(0, C, 15, 10);
        breaks(x, "let a=1/9.99;", 5, 0);
        // With the slide to the left, the hair can't come to 1 on C.
        x = PromiseTest.full();
        x.hair(D, 100, 0);
        x.slide(C, 200, 0);
        breaks(x, "let a=over 1.99;", 5, 0);
        due.is("read", Texts.read(x, "let a=over 2;"), 0);
        due.is("run", x.run(), 0);
        // A mark of C beyond the slide's end: at it B shows nothing.
        x = PromiseTest.full();
        x.hair(D, 101, 0);
        x.index(false);
        x.flaw(0, C, 0, -10);
        breaks(x, "let a=over 1;", 5, 0);
    }

    private static void noValue() {
        due.promise("promises 20, 21, no value");
        breaks("repeat 0 let a=1; end let b=a;", 6, 22);
        breaks("repeat 0 let a=1; end let b=2*square a;", 6, 22);
        breaks("repeat 0 let a=1; end if a<1 end", 6, 22);
        breaks("repeat 0 let a=1; end if 1==a end", 6, 22);
        breaks("repeat 0 let a=1; end if surely 1<a end", 6, 22);
        breaks("if 2<1 let a=1; else let b=a; end", 6, 21);
        breaks("repeat 2 if 2<1 let a=1; end let b=2; let b=a; end", 6, 38);
        SlideWorks x = PromiseTest.full();
        Texts.read(x, "let c=1;if 1<c let a=1; end let b=a;");
        x.run();
        due.is("broke", x.broke(), 6);
        due.is("where", x.where(), 28);
        // A value of the run ahead is none.
        Texts.read(x, "let a=1;");
        due.is("run", x.run(), 0);
        Texts.read(x, "if 2<1 let a=1; end let b=a;");
        due.is("run", x.run(), -2);
        due.is("broke", x.broke(), 6);
    }

    private static void whatStays() {
        due.promise("promises 19 to 23, what stays");
        SlideWorks x = PromiseTest.full();
        Texts.read(x, "let a=2*3;let b=a*3;if a<b let c=2;end");
        due.is("run", x.run(), 3);
        due.is("moves", x.moves(), 5);
        due.is("broke", x.broke(), 0);
        due.is("where", x.where(), -1);
        hasState(x, "first", x.state(1), x.units(200), x.state(3), 2);
        x.flaw(0, D, 4, 20);
        x.flaw(0, D, 15, 20);
        int s = x.state(1);
        int u = x.state(3);
        Texts.read(x, "let a=3;let d=4*2;let e=9.99;");
        due.is("read forgets", x.value(0, 0), -1000);
        due.is("run", x.run(), -2);
        due.is("broke", x.broke(), 5);
        due.is("where", x.where(), 18);
        due.is("moves stay", x.moves(), 5);
        hasState(x, "broke", s, x.units(200), u, 2);
        due.is("no value", x.value(0, 0), -1000);
        x.flaw(0, D, 15, 0);
        due.is("run", x.run(), 1);
        due.is("moves", x.moves(), 4);
        due.is("value", x.value(0, 0), 300);
        due.is("broke stays", x.broke(), 5);
        due.is("where stays", x.where(), 18);
        x.flaw(0, D, 15, 20);
        due.is("run", x.run(), -2);
        due.is("values stay", x.value(0, 0), 300);
        due.is("values stay", x.value(2, 0), 999);
        due.is("take another", x.take(x.rule()), true);
        due.is("values stay", x.value(2, 0), 999);
        due.is("run", x.run(), -2);
        due.is("broke", x.broke(), 2);
        due.is("where", x.where(), 0);
        due.is("values stay", x.value(1, 0), 800);
        due.is("moves stay", x.moves(), 4);
        SlideWorks y = new SlideWorks();
        Texts.read(y, "let a=1;");
        due.is("nothing in hand", y.run(), -1);
        due.is("broke", y.broke(), 0);
        y.rule();
        y.take(0);
        y.take(3);
        due.is("a bare rule", y.run(), -2);
        // A name told only in a turn not taken again has no value, though the run ahead gave it one.
        x = PromiseTest.full();
        Texts.read(x, "if 1<2 let a=1; end");
        x.run();
        due.is("value", x.value(0, 0), 100);
        Texts.read(x, "if 2<1 let a=1; end");
        due.is("run", x.run(), 0);
        due.is("none", x.value(0, 0), -1000);
    }

    private static void valueArguments() {
        due.promise("promise 23, arguments");
        SlideWorks x = PromiseTest.full();
        Texts.read(x, "let a=2;let b=3;repeat 0 let c=4;end");
        due.is("ahead of the run", x.value(0, 0), -1000);
        x.run();
        due.is("b", x.value(1, 0), 300);
        int[][] wrong = {{2, 0}, {3, 0}, {12, 0}, {-1, 0}, {0, -1}, {0, 6}, {Integer.MAX_VALUE, 0}, {0, Integer.MIN_VALUE}};
        for (int[] each : wrong) {
            due.is("value " + each[0] + " " + each[1], x.value(each[0], each[1]), -1000);
        }
        StringBuilder twelve = new StringBuilder();
        for (int i = 0; i < 12; i++) {
            twelve.append("let ").append((char) ('l' - i)).append('=').append(i + 1).append(';');
        }
        Texts.read(x, twelve.toString());
        x.run();
        for (int i = 0; i < 12; i++) {
            int n = i + 1;
            due.is("value " + i, x.value(i, 0), n < 10 ? 100 * n : 10 * n);
            due.is("place " + i, x.value(i, 1), n < 10 ? 0 : 1);
        }
        due.is("value 12", x.value(12, 0), -1000);
    }
}
