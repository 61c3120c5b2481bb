/** For each promise of the document ordinary calls, the edges that it names, and wrong arguments. */
public final class PromiseTest {
    private static final Due due = new Due();
    private static final int MIN = Integer.MIN_VALUE;
    private static final int MAX = Integer.MAX_VALUE;

    // The scales of a full rule.
    private static final int D = 0;
    private static final int C = 1;
    private static final int A = 2;
    private static final int K = 3;
    private static final int B = 4;

    public static void main(String[] args) {
        newObject();
        feedAndBack();
        readSyntax();
        readRoom();
        readMeaning();
        readChanges();
        units();
        rulesAndScales();
        flaws();
        steps();
        cut();
        seen();
        take();
        hair();
        slideAndIndex();
        look();
        state();
        RunPromises.test(due);
        productFactors();
        productOrders();
        severalProducts();
        dividing();
        chartAndThread();
        design();
        shownAndStrike();
        guesses();
        sureAndOdd();
        edgesOfGuesses();
        knownBy();
        counts();
        due.close();
    }

    /** A works with one rule of D, C, A, K, B in hand. */
    static SlideWorks full() {
        SlideWorks x = new SlideWorks();
        fullRule(x, x.rule());
        x.take(0);
        return x;
    }

    static void fullRule(SlideWorks x, int rule) {
        x.scale(rule, true, 1, false);
        x.scale(rule, false, 1, false);
        x.scale(rule, true, 2, false);
        x.scale(rule, true, 3, false);
        x.scale(rule, false, 1, true);
    }

    private static void newObject() {
        due.promise("promise 1");
        SlideWorks x = new SlideWorks();
        int[] counts = {0, 0, 0, 0, 0, 2, 10};
        for (int i = 0; i < counts.length; i++) {
            due.is("count " + i, x.count(i), counts[i]);
        }
        for (int i = 0; i < 5; i++) {
            due.is("state " + i, x.state(i), -5000);
        }
        due.is("place", x.place(), -1);
        due.is("broke", x.broke(), 0);
        due.is("where", x.where(), -1);
        due.is("moves", x.moves(), 0);
        due.is("run", x.run(), -1);
        due.is("value", x.value(0, 0), -1000);
        due.is("fewest", x.fewest(0), -1000);
        due.is("order", x.order(0), -1);
        due.is("clear", x.clear(), 0);
        due.is("cut", x.cut(0, 0, 0, 100), -1000);
        due.is("guesses", x.guesses(0, 0), -1);
        due.is("strike", x.strike(0), -1);
        due.is("NONE", SlideWorks.NONE, -1);
    }

    private static void feedAndBack() {
        due.promise("promises 2, 3");
        SlideWorks x = new SlideWorks();
        for (int i = 1; i <= 100; i++) {
            due.is("feed", x.feed(0x20202020, 0x20202020, 0x20202020, 0x20202020, 0x20202020), 20 * i);
        }
        due.is("feed beyond", x.feed(1, 2, 3, 4, 5), -1);
        due.is("count", x.count(4), 2000);
        due.is("back 1", x.back(1), 1999);
        due.is("feed beyond by 19", x.feed(1, 2, 3, 4, 5), -1);
        due.is("back 18", x.back(18), 1981);
        due.is("feed beyond by 1", x.feed(1, 2, 3, 4, 5), -1);
        due.is("count", x.count(4), 1981);
        due.is("back 1", x.back(1), 1980);
        due.is("feed full", x.feed(0x20202020, 0x20202020, 0x20202020, 0x20202020, 0x20202020), 2000);
        due.is("back more", x.back(2001), -1);
        due.is("back below 0", x.back(-1), -1);
        due.is("back least", x.back(MIN), -1);
        due.is("back most", x.back(MAX), -1);
        due.is("back 0", x.back(0), 2000);
        due.is("read", x.read(), 0);
        due.is("back of none", x.back(1), -1);
        due.is("back 0 of none", x.back(0), 0);
        for (int at = 0; at < 20; at++) {
            int[] five = {0x20202020, 0x0a0d0920, 0x20202020, 0x20202020, 0x20202020};
            int shift = 24 - at % 4 * 8;
            five[at / 4] = five[at / 4] & ~(255 << shift) | 0xe9 << shift;
            due.is("feed", x.feed(five[0], five[1], five[2], five[3], five[4]), 20);
            due.is("read of byte " + at, x.read(), 1);
            due.is("its place", x.place(), at);
        }
        Texts.feed(x, "let a=2;");
        due.is("feed behind", x.feed(0x6c657420, 0x623d333b, 0x20202020, 0x20202020, 0x20202020), 28);
        due.is("back", x.back(28), 0);
        due.is("read of none", x.read(), 0);
        due.is("its names", x.count(3), 0);
    }

    private static void text(String text, int fault, int place) {
        SlideWorks x = new SlideWorks();
        due.is("read '" + text + "'", Texts.read(x, text), fault);
        due.is("place of '" + text + "'", x.place(), place);
        due.is("tape behind '" + text + "'", x.count(4), 0);
    }

    private static void readSyntax() {
        due.promise("promises 4, 5, syntax");
        text("", 0, -1);
        text(" \t\n\r", 0, -1);
        text("let a=2;", 0, -1);
        text("\tlet\na\r=\n2\t; ", 0, -1);
        text("let a=2", 1, 7);
        text("let a=2 ", 1, 8);
        text("let", 1, 3);
        text("le a=2;", 1, 0);
        text("lets a=2;", 1, 0);
        text("leta=2;", 1, 0);
        text("let let=2;", 1, 4);
        text("let over=2;", 1, 4);
        text("let surely=2;", 1, 4);
        text("let 2=2;", 1, 4);
        text("let a==2;", 1, 5);
        text("let a= =2;", 1, 7);
        text("let a 2;", 1, 6);
        text("let a=2*;", 1, 8);
        text("let a=*2;", 1, 6);
        text("let a=;", 1, 6);
        text("let a=2<3;", 1, 7);
        text("let a=square square 2;", 1, 13);
        text("let a=square;", 1, 12);
        text("let a=square 2*cube 2/root 2/third 2*over 2;", 0, -1);
        text("let a=square2;", 0, -1);
        text("let a=squareb;", 4, 6);
        text("let a=if;", 1, 6);
        text("let a=2 3;", 1, 8);
        text("let a=2a;", 1, 7);
        text("let a=2let", 1, 7);
        text("let a=2;;", 1, 8);
        text("let a=2;\0", 1, 8);
        text("let a=2;\u000b", 1, 8);
        text("let a=2;\u00a0", 1, 8);
        text("let a=2;end", 1, 8);
        text("let a=2;else", 1, 8);
        text("let a=2;let b=a;", 0, -1);
        text("2", 1, 0);
        text(";", 1, 0);
        text("end", 1, 0);
    }

    private static void readTokens() {
        text("let a=1234;", 0, -1);
        text("let a=12345;", 1, 6);
        text("let a=12345.6;", 1, 6);
        text("let a=1234.5678;", 0, -1);
        text("let a=1.23456;", 1, 6);
        text("let a=1.;", 1, 7);
        text("let a=1. 5;", 1, 7);
        text("let a=1 .5;", 1, 8);
        text("let a=.5;", 1, 6);
        text("let a=1.2.3;", 1, 9);
        text("let a=1,2;", 1, 7);
        text("let a=-1;", 1, 6);
        text("let abcdefgh=1;", 0, -1);
        text("let abcdefghi=1;", 1, 4);
        text("let A=1;", 1, 4);
        text("let a1=1;", 1, 5);
        text("let a_b=1;", 1, 5);
        text("let a=1{;", 1, 7);
        text("let a=1`;", 1, 7);
        text("let a=1:;", 1, 7);
        text("let az=1;", 0, -1);
        text("let a=1/2*3;", 0, -1);
    }

    private static void readBlocks() {
        text("repeat 2 let a=1; end", 0, -1);
        text("repeat 2let a=1;end", 0, -1);
        text("repeat 3end", 0, -1);
        text("repeat 2", 1, 8);
        text("repeat 2 let a=1;", 1, 17);
        text("repeat end", 1, 7);
        text("repeat a end", 1, 7);
        text("repeat 2 else end", 1, 9);
        text("repeat 2 3 end", 1, 9);
        text("repeat 2 end end", 1, 13);
        text("repeat 2 if 1<2 else end else end", 1, 25);
        text("if 1<2 end", 0, -1);
        text("if 1<2 repeat 1 end else repeat 1 end end", 0, -1);
        text("if 1<2 repeat 1 else end end", 1, 16);
        text("if surely 1==2 else end", 0, -1);
        text("if surely surely 1==2 end", 1, 10);
        text("if 1 surely <2 end", 1, 5);
        text("if 1=2 end", 1, 4);
        text("if 1= =2 end", 1, 4);
        text("if 1===2 end", 1, 6);
        text("if 1<<2 end", 1, 5);
        text("if 1 2 end", 1, 5);
        text("if <2 end", 1, 3);
        text("if 1<2 else else end", 1, 12);
        text("if 1<2 else end else end", 1, 16);
        text("if square 1<2 end", 1, 3);
        text("if 1<square 2 end", 1, 5);
        text("if 1<2", 1, 6);
        text("if 1<2 else", 1, 11);
        text("if 1", 1, 4);
        text("if 1<2; end", 1, 6);
        text("if 1<2 if 2<3 else end else end", 0, -1);
    }

    private static void readRoom() {
        due.promise("promises 4, 5, tokens");
        readTokens();
        due.promise("promises 4, 5, blocks");
        readBlocks();
        due.promise("promises 4, 5, room");
        String eighty = "let a=1;".repeat(80);
        text(eighty, 0, -1);
        text(eighty + " let a=1;", 2, 641);
        text(eighty + "repeat 1 end", 2, 640);
        text(eighty + "end", 1, 640);
        text(eighty + ";", 1, 640);
        text(eighty + "?", 1, 640);
        text(eighty + "   ", 0, -1);
        text("let a=1;".repeat(79) + "let a=1*2;", 2, 640);
        text("let a=1;".repeat(79) + "let a=12", 1, 640);
        text("let a=b;" + "let a=1;".repeat(80), 2, 640);
        StringBuilder twelve = new StringBuilder();
        for (char c = 'a'; c < 'a' + 12; c++) {
            twelve.append("let ").append(c).append("=1;");
        }
        text(twelve.toString(), 0, -1);
        text(twelve + "let a=l;", 0, -1);
        text(twelve + "let m=1;", 2, 100);
        text(twelve + "let a=m;", 2, 102);
        text(twelve + "if 1<m end", 2, 101);
        text(twelve + "m", 1, 96);
        SlideWorks x = new SlideWorks();
        Texts.read(x, "let a=1;let aa=1;let ab=1;let ba=1;let b=1;let z=1;let az=1;let abcdefgh=1;let abcdefgi=1;let bbcdefgh=1;let ab=1;");
        due.is("names that differ", x.count(3), 10);
        text("let a=zz;" + twelve, 2, 101);
        text(eighty.substring(0, 8 * 68) + twelve, 0, -1);
        String six = "repeat 1 if 1<2 repeat 1 if 1<2 else repeat 1 if 1<2 ";
        String ends = " end end end end end end";
        text(six + ends, 0, -1);
        text(six + "repeat 1 end" + ends, 2, six.length());
        text(six + "if 1<2 end" + ends, 2, six.length());
        text(six + "else if 1<2 end" + ends, 2, six.length() + 5);
        text(six + "end repeat 1 end" + ends.substring(4), 0, -1);
        text(six + "let a=0;" + "if 1<2 end" + ends, 2, six.length() + 8);
        text(six + "repeat", 2, six.length());
        text(six + "let repeat", 1, six.length() + 4);
        text("repeat 1 end ".repeat(20), 0, -1);
        text("repeat 1 ".repeat(7), 2, 54);
        text("repeat 1 ".repeat(6), 1, 54);
    }

    private static void readMeaning() {
        due.promise("promises 4, 5, names and numbers");
        text("let a=a;", 4, 6);
        text("let a=1*a;", 4, 8);
        text("let a=square b;", 4, 13);
        text("let a=1;let b=a*c;let c=1;", 4, 16);
        text("let a=1;let a=a;", 0, -1);
        text("if a<1 end", 4, 3);
        text("if 1==a end let a=1;", 4, 6);
        text("if surely a<1 end", 4, 10);
        text("if 1<2 let a=1; end let b=a;", 0, -1);
        text("if 1<2 let a=1; else let b=a; end", 0, -1);
        text("repeat 0 let a=1; end let b=a;", 0, -1);
        text("repeat 2 let b=a; let a=1; end", 4, 15);
        text("let a=0;", 5, 6);
        text("let a=0.0;", 5, 6);
        text("let a=0000.0000;", 5, 6);
        text("let a=0000.0001;", 0, -1);
        text("let a=1*0;", 5, 8);
        text("if 0<1 end", 5, 3);
        text("if 1==0.00 end", 5, 6);
        text("repeat 0 end", 0, -1);
        text("repeat 99 end", 0, -1);
        text("repeat 0099 end", 0, -1);
        text("repeat 100 end", 5, 7);
        text("repeat 9999 end", 5, 7);
        text("repeat 1.0 end", 5, 7);
        text("repeat 0.0 end", 5, 7);
        text("let a=100;", 0, -1);
        text("let a=0*b;", 5, 6);
        text("let a=b*0;", 4, 6);
        text("let a=b; let", 1, 12);
        text("let a=0; ?", 1, 9);
        text("repeat 100", 1, 10);
    }

    private static void readChanges() {
        due.promise("promise 4, what it changes");
        SlideWorks x = full();
        due.is("read", Texts.read(x, "let a=2; let b=3;"), 0);
        due.is("run", x.run(), 0);
        due.is("value", x.value(1, 0), 300);
        due.is("read fault", Texts.read(x, "let c=2"), 1);
        due.is("place", x.place(), 7);
        due.is("names", x.count(3), 2);
        due.is("value stays", x.value(1, 0), 300);
        due.is("read fault 5", Texts.read(x, "let c=0;"), 5);
        due.is("value stays", x.value(0, 0), 200);
        due.is("run of the one ahead", x.run(), 0);
        due.is("value", x.value(1, 0), 300);
        due.is("read", Texts.read(x, "let q=4;"), 0);
        due.is("place", x.place(), -1);
        due.is("names", x.count(3), 1);
        due.is("no value", x.value(0, 0), -1000);
        due.is("run", x.run(), 0);
        due.is("value", x.value(0, 0), 400);
        due.is("name 1", x.value(1, 0), -1000);
        due.is("read of an empty tape", x.read(), 0);
        due.is("names", x.count(3), 0);
        due.is("no value", x.value(0, 0), -1000);
        due.is("run of nothing", x.run(), 0);
        due.is("moves", x.moves(), 0);
    }

    private static void units() {
        due.promise("promise 6");
        SlideWorks x = new SlideWorks();
        for (int m = 100; m <= 999; m++) {
            due.is("units " + m, x.units(m), (long) Math.floor(4096 * Math.log10(m / 100.0)));
        }
        int[] wrong = {99, 1000, 0, -1, -100, MIN, MAX};
        for (int m : wrong) {
            due.is("units " + m, x.units(m), -1);
        }
    }

    private static void rulesAndScales() {
        due.promise("promises 7, 8");
        SlideWorks x = new SlideWorks();
        due.is("scale of no rule", x.scale(0, true, 1, false), -1);
        for (int i = 0; i < 4; i++) {
            due.is("rule", x.rule(), i);
            due.is("rules", x.count(0), i + 1);
        }
        due.is("rule 5", x.rule(), -1);
        due.is("rules", x.count(0), 4);
        due.is("fold 0", x.scale(0, true, 0, false), -1);
        due.is("fold 4", x.scale(0, true, 4, false), -1);
        due.is("fold least", x.scale(0, true, MIN, false), -1);
        due.is("rule -1", x.scale(-1, true, 1, false), -1);
        due.is("rule 4", x.scale(4, true, 1, false), -1);
        for (int i = 0; i < 8; i++) {
            due.is("scale", x.scale(3, i % 2 == 0, 1 + i % 3, i > 3), i);
        }
        due.is("scale 9", x.scale(3, true, 1, false), -1);
        due.is("scale of another", x.scale(0, true, 3, false), 0);
        due.is("its last mark", x.cut(0, 0, 3, 100), 4096);
        due.is("of fold 2", x.cut(3, 1, 2, 100), 4096);
        due.is("of fold 3 turned", x.cut(3, 5, 3, 100), 0);
        due.is("rule 2 has none", x.cut(2, 0, 0, 100), -1000);
    }

    private static void flaws() {
        due.promise("promise 9");
        SlideWorks x = full();
        due.is("flaw 20", x.flaw(0, D, 0, 20), true);
        due.is("cut 100", x.cut(0, D, 0, 100), 20);
        due.is("flaw -20", x.flaw(0, D, 0, -20), true);
        due.is("cut 100", x.cut(0, D, 0, 100), -20);
        due.is("flaw 21", x.flaw(0, D, 0, 21), false);
        due.is("flaw -21", x.flaw(0, D, 0, -21), false);
        due.is("stretch -1", x.flaw(0, D, -1, 1), false);
        due.is("stretch 16", x.flaw(0, D, 16, 1), false);
        due.is("scale 5", x.flaw(0, 5, 0, 1), false);
        due.is("scale -1", x.flaw(0, -1, 0, 1), false);
        due.is("rule 1", x.flaw(1, D, 0, 1), false);
        due.is("rule -1", x.flaw(-1, D, 0, 1), false);
        due.is("cut 100 stays", x.cut(0, D, 0, 100), -20);
        due.is("flaw 15", x.flaw(0, D, 15, 7), true);
        due.is("the last mark", x.cut(0, D, 1, 100), 4103);
        due.is("999", x.cut(0, D, 0, 999), 4101);
        due.is("866 at 3840", x.cut(0, D, 0, 866), 3847);
        due.is("865 in stretch 14", x.cut(0, D, 0, 865), x.units(865));
        due.is("flaw 3", x.flaw(0, D, 3, 5), true);
        due.is("154 at 768", x.cut(0, D, 0, 154), 773);
        due.is("153 in stretch 2", x.cut(0, D, 0, 153), x.units(153));
        due.is("flaw 3 off", x.flaw(0, D, 3, 0), true);
        due.is("154", x.cut(0, D, 0, 154), 768);
        due.is("other scales", x.cut(0, C, 0, 999), 4094);
        due.is("turned by its own true place", x.flaw(0, B, 0, -3), true);
        due.is("turned last", x.cut(0, B, 1, 100), -3);
        due.is("turned first", x.cut(0, B, 0, 100), 4096);
        due.is("turned 866 at 256", x.cut(0, B, 0, 866), 256);
        due.is("turned 867", x.cut(0, B, 0, 867), 4096 - x.units(867) - 3);
    }

    private static void steps() {
        due.promise("promise 10");
        SlideWorks x = full();
        int[][] wrong = {{-1, 10}, {21, 10}, {2, 8}, {2, 41}, {MIN, 10}, {2, MAX}, {10, 2}};
        for (int[] each : wrong) {
            due.is("steps " + each[0] + " " + each[1], x.steps(each[0], each[1]), false);
            due.is("hand", x.count(5), 2);
            due.is("eye", x.count(6), 10);
        }
        due.is("steps 0 9", x.steps(0, 9), true);
        due.is("hand", x.count(5), 0);
        due.is("eye", x.count(6), 9);
        due.is("hair", x.hair(D, 200, 0), 1233);
        due.is("doubt", x.state(4), 0);
        due.is("low", x.look(D, 1), 199);
        due.is("steps 20 40", x.steps(20, 40), true);
        due.is("hand", x.count(5), 20);
        due.is("eye", x.count(6), 40);
        due.is("low with the old doubt", x.look(D, 1), 196);
        due.is("hair", x.hair(D, 200, 0), 1233);
        due.is("doubt", x.state(4), 20);
        due.is("low", x.look(D, 1), 194);
    }

    private static void cut() {
        due.promise("promise 11");
        SlideWorks x = full();
        x.scale(0, true, 3, true);
        int[][] rows = {{D, 0, 100, 0}, {D, 0, 999, 4094}, {D, 1, 100, 4096}, {A, 0, 999, 2047}, {A, 1, 100, 2048},
            {A, 1, 999, 4095}, {A, 2, 100, 4096}, {K, 0, 200, 411}, {K, 1, 200, 1776}, {K, 2, 200, 3141},
            {K, 3, 100, 4096}, {B, 0, 100, 4096}, {B, 0, 999, 2}, {B, 1, 100, 0}, {5, 0, 200, 3685}, {5, 3, 100, 0}};
        for (int[] each : rows) {
            due.is("cut " + each[0] + " " + each[1] + " " + each[2], x.cut(0, each[0], each[1], each[2]), each[3]);
        }
        int[][] wrong = {{D, 0, 99}, {D, 0, 1000}, {D, 1, 101}, {D, 1, 99}, {D, 2, 100}, {D, -1, 100}, {A, 2, 101},
            {A, 3, 100}, {K, 3, 999}, {K, 4, 100}, {6, 0, 100}, {-1, 0, 100}, {D, MIN, 100}, {D, MAX, 100}, {D, 0, MIN}};
        for (int[] each : wrong) {
            due.is("cut " + each[0] + " " + each[1] + " " + each[2], x.cut(0, each[0], each[1], each[2]), -1000);
        }
        due.is("rule 1", x.cut(1, 0, 0, 100), -1000);
        due.is("rule -1", x.cut(-1, 0, 0, 100), -1000);
    }

    private static void seen() {
        due.promise("promise 12");
        SlideWorks x = full();
        int[][] rows = {{D, 0, 0, 0, 100}, {D, 4096, 0, 0, 1100}, {D, 4095, 0, 0, 999}, {D, 4094, 0, 0, 999},
            {D, 4095, 1, 2, 1100}, {D, 4095, 0, 2, 999}, {D, 1233, 0, 1, 200}, {D, 1233, 8, 1, 200}, {D, 1233, 9, 1, 199},
            {D, 1233, 8, 2, 201}, {D, 1233, 7, 2, 200}, {D, 9, 0, 0, 101}, {D, 8, 0, 0, 100}, {D, 9, 7, 1, 101},
            {D, 9, 8, 1, 101}, {D, 9, 9, 1, 100}, {D, 9, 8, 2, 101}, {D, 0, 999, 2, 175}, {A, 2048, 0, 0, 1100},
            {A, 2047, 0, 0, 999}, {A, 2048, 999, 1, 326}, {A, 2048, 999, 2, 1307}, {A, 4096, 0, 0, 2100},
            {K, 4096, 3, 1, 2995}, {K, 1365, 0, 0, 1100}, {B, 0, 0, 0, 1100}, {B, 4096, 0, 0, 100}, {B, 0, 2, 1, 999},
            {B, 2863, 0, 0, 200}, {B, 2863, 9, 1, 199}, {B, 2863, 9, 2, 201}, {B, 1, 0, 0, 999}, {B, 0, 999, 1, 571}};
        for (int[] each : rows) {
            due.is("seen " + each[0] + " " + each[1] + " " + each[2] + " " + each[3],
                    x.seen(0, each[0], each[1], each[2], each[3]), each[4]);
        }
        int[][] wrong = {{D, -1, 0, 0}, {D, 4097, 0, 0}, {D, 0, -1, 0}, {D, 0, 1000, 0}, {D, 0, 0, -1}, {D, 0, 0, 3},
            {5, 0, 0, 0}, {-1, 0, 0, 0}, {D, MIN, 0, 0}, {D, MAX, 0, 0}, {D, 0, MAX, 0}};
        for (int[] each : wrong) {
            due.is("seen " + each[0] + " " + each[1] + " " + each[2] + " " + each[3],
                    x.seen(0, each[0], each[1], each[2], each[3]), -1);
        }
        due.is("rule 1", x.seen(1, 0, 0, 0, 0), -1);
        due.is("rule -1", x.seen(-1, 0, 0, 0, 0), -1);
        x.flaw(0, D, 4, 20);
        x.flaw(0, D, 5, -20);
        // Marks of stretches 4 and 5 lie over one another: 204 stands at 1288, 208 at 1282.
        due.is("over one another", x.seen(0, D, 1285, 2, 0), 204);
        due.is("lowest of both", x.seen(0, D, 1285, 20, 1), 202);
        due.is("highest of both", x.seen(0, D, 1285, 20, 2), 210);
        x.flaw(0, D, 15, -20);
        due.is("beyond all", x.seen(0, D, 4096, 0, 0), 1100);
        due.is("low, none within", x.seen(0, D, 4096, 19, 1), 1100);
        due.is("low within", x.seen(0, D, 4096, 22, 1), 999);
        due.is("the last one, just within", x.seen(0, D, 4000, 76, 2), 1100);
        due.is("the last one, just without", x.seen(0, D, 4000, 75, 2), 999);
        x.flaw(0, D, 0, 20);
        due.is("the first one, just within", x.seen(0, D, 100, 80, 1), 100);
        due.is("the first one, just without", x.seen(0, D, 100, 79, 1), 101);
    }

    private static void take() {
        due.promise("promise 13");
        SlideWorks x = full();
        x.rule();
        x.hair(D, 200, 0);
        x.slide(C, 150, 0);
        due.is("take -1", x.take(-1), false);
        due.is("take 2", x.take(2), false);
        due.is("take most", x.take(MAX), false);
        due.is("still rule 0", x.state(0), 0);
        due.is("still s", x.state(1), 1233 - x.units(150));
        due.is("still h", x.state(2), 1233);
        due.is("still u", x.state(3), 4);
        due.is("still v", x.state(4), 2);
        due.is("take again", x.take(0), true);
        for (int i = 0; i < 5; i++) {
            due.is("state " + i, x.state(i), 0);
        }
        x.hair(D, 200, 0);
        due.is("take 1", x.take(1), true);
        due.is("rule 1", x.state(0), 1);
        due.is("h", x.state(2), 0);
        due.is("no scale there", x.hair(D, 200, 0), -1);
        due.is("no look there", x.look(D, 0), -1);
        due.is("no slide there", x.slide(C, 200, 0), -5000);
        x.scale(1, true, 1, false);
        due.is("a scale comes", x.hair(D, 300, 0), 1954);
    }

    private static void hair() {
        due.promise("promise 14");
        SlideWorks x = new SlideWorks();
        fullRule(x, x.rule());
        due.is("nothing in hand", x.hair(D, 200, 0), -1);
        x.take(0);
        due.is("D 999", x.hair(D, 999, 99), 4094);
        due.is("v", x.state(4), 2);
        due.is("A of an odd place", x.hair(A, 400, 1), 3281);
        due.is("A of an even one", x.hair(A, 400, -2), 1233);
        due.is("A of one below 0", x.hair(A, 400, -99), 3281);
        due.is("K 1", x.hair(K, 200, 1), 1776);
        due.is("K -1", x.hair(K, 200, -1), 3141);
        due.is("K -3", x.hair(K, 200, -3), 411);
        due.is("K 99", x.hair(K, 200, 99), 411);
        due.is("B", x.hair(B, 200, 0), 2863);
        due.is("v by u", x.state(4), 2);
        int[][] wrong = {{D, 99, 0}, {D, 1000, 0}, {D, 200, 100}, {D, 200, -100}, {-1, 200, 0}, {5, 200, 0}, {D, MIN, 0},
            {D, 200, MAX}, {MAX, 200, 0}};
        for (int[] each : wrong) {
            due.is("hair " + each[0] + " " + each[1] + " " + each[2], x.hair(each[0], each[1], each[2]), -1);
            due.is("h stays", x.state(2), 2863);
        }
        x.hair(D, 300, 0);
        x.slide(C, 200, 0);
        due.is("C", x.hair(C, 400, 0), 721 + 2466);
        due.is("v", x.state(4), 6);
        due.is("C falls off", x.hair(C, 700, 0), -1);
        due.is("h stays", x.state(2), 3187);
        due.is("v stays", x.state(4), 6);
        x.hair(D, 100, 0);
        x.slide(C, 200, 0);
        due.is("C falls off below", x.hair(C, 199, 0), -1);
        due.is("C at 0", x.hair(C, 200, 0), 0);
        x.flaw(0, D, 0, -1);
        due.is("D falls off by a flaw", x.hair(D, 100, 0), -1);
        x.flaw(0, D, 15, 2);
        due.is("D to the end by a flaw", x.hair(D, 999, 0), 4096);
        x.flaw(0, D, 15, 3);
        due.is("D falls off there", x.hair(D, 999, 0), -1);
    }

    private static void slideAndIndex() {
        due.promise("promises 15, 16");
        SlideWorks x = new SlideWorks();
        fullRule(x, x.rule());
        due.is("slide, nothing in hand", x.slide(C, 200, 0), -5000);
        due.is("index, nothing in hand", x.index(false), -5000);
        x.take(0);
        due.is("slide", x.slide(C, 200, 0), -1233);
        due.is("u", x.state(3), 2);
        due.is("v", x.state(4), 0);
        due.is("slide 999", x.slide(C, 999, 5), -4094);
        due.is("slide by B", x.slide(B, 999, 0), -2);
        int[][] wrong = {{D, 200, 0}, {A, 200, 0}, {C, 99, 0}, {C, 1000, 0}, {C, 200, 100}, {C, 200, -100}, {-1, 200, 0},
            {5, 200, 0}, {MIN, 200, 0}};
        for (int[] each : wrong) {
            due.is("slide " + each[0] + " " + each[1] + " " + each[2], x.slide(each[0], each[1], each[2]), -5000);
            due.is("s stays", x.state(1), -2);
            due.is("u stays", x.state(3), 2);
        }
        due.is("index right", x.index(true), -4096);
        due.is("index left", x.index(false), 0);
        x.hair(D, 300, 0);
        due.is("index left", x.index(false), 1954);
        due.is("u", x.state(3), 4);
        due.is("index right", x.index(true), 1954 - 4096);
        due.is("u by v alone", x.state(3), 4);
        due.is("v", x.state(4), 2);
        due.is("hair on C", x.hair(C, 500, 0), 1954 - 4096 + 2862);
        due.is("v", x.state(4), 6);
        due.is("slide", x.slide(C, 500, 0), 1954 - 4096);
        due.is("u", x.state(3), 8);
        x.flaw(0, C, 15, 20);
        x.hair(D, 100, 0);
        due.is("slide falls off", x.slide(C, 999, 0), -5000);
        due.is("s stays", x.state(1), 1954 - 4096);
        due.is("u stays", x.state(3), 8);
        x.flaw(0, C, 15, 2);
        due.is("slide to the end", x.slide(C, 999, 0), -4096);
        x.flaw(0, C, 0, -20);
        x.flaw(0, D, 15, 2);
        x.hair(D, 999, 0);
        due.is("slide falls off above", x.slide(C, 100, 0), -5000);
        due.is("index to the end", x.index(false), 4096);
        SlideWorks y = new SlideWorks();
        y.rule();
        y.take(0);
        due.is("index of a bare rule", y.index(true), -4096);
        y.scale(0, false, 2, false);
        y.scale(0, false, 3, true);
        due.is("slide of fold 2", y.slide(0, 400, -1), -3281);
        due.is("slide of fold 3, turned", y.slide(1, 200, 4), 1776 - 4096);
    }

    private static void look() {
        due.promise("promise 17");
        SlideWorks x = new SlideWorks();
        fullRule(x, x.rule());
        due.is("nothing in hand", x.look(D, 0), -1);
        x.take(0);
        due.is("D", x.look(D, 0), 100);
        due.is("B", x.look(B, 0), 1100);
        x.hair(D, 200, 0);
        due.is("D within 12", x.look(D, 1), 199);
        due.is("D high", x.look(D, 2), 201);
        due.is("K", x.look(K, 0), 800);
        due.is("K low", x.look(K, 1), 784);
        due.is("K high", x.look(K, 2), 817);
        due.is("C within 12", x.look(C, 0), 200);
        due.is("B", x.look(B, 0), 500);
        int[][] wrong = {{-1, 0}, {5, 0}, {D, -1}, {D, 3}, {MAX, 0}, {D, MIN}};
        for (int[] each : wrong) {
            due.is("look " + each[0] + " " + each[1], x.look(each[0], each[1]), -1);
        }
        x.slide(C, 100, 0);
        x.hair(C, 250, 0);
        due.is("u", x.state(3), 4);
        due.is("v", x.state(4), 6);
        due.is("D within 16", x.look(D, 1), 496);
        due.is("D high", x.look(D, 2), 504);
        due.is("C within 20", x.look(C, 1), 248);
        due.is("C high", x.look(C, 2), 252);
        x.hair(D, 199, 0);
        due.is("C left of its end", x.look(C, 0), -1);
        x.hair(D, 200, 0);
        due.is("C at its end", x.look(C, 0), 100);
        due.is("B at its end", x.look(B, 0), 1100);
        x.hair(D, 100, 0);
        x.index(true);
        due.is("C at its right end", x.look(C, 0), 1100);
        x.hair(D, 101, 0);
        due.is("C right of its end", x.look(C, 0), -1);
        x.hair(D, 996, 0);
        x.index(false);
        x.hair(D, 995, 0);
        due.is("C 1 left of its end", x.look(C, 0), -1);
        x.take(0);
        x.hair(D, 500, 0);
        for (int i = 0; i < 300; i++) {
            x.slide(C, 500, 0);
            x.hair(C, 500, 0);
        }
        due.is("v", x.state(4), 2 + 4 * 300);
        due.is("low within 1212", x.look(D, 1), 253);
        due.is("high within 1212", x.look(D, 2), 988);
    }

    private static void state() {
        due.promise("promise 18");
        SlideWorks x = full();
        due.is("what -1", x.state(-1), -5000);
        due.is("what 5", x.state(5), -5000);
        due.is("what most", x.state(MAX), -5000);
        x.hair(D, 200, 0);
        x.slide(C, 300, 0);
        int[] all = {0, -721, 1233, 4, 2};
        for (int i = 0; i < 5; i++) {
            due.is("state " + i, x.state(i), all[i]);
        }
    }

    private static void productFactors() {
        due.promise("promises 24, 25");
        SlideWorks x = new SlideWorks();
        int[][] wrong = {{99, 0}, {1000, 0}, {200, 100}, {200, -100}, {MIN, 0}, {200, MAX}};
        for (int[] each : wrong) {
            due.is("factor " + each[0] + " " + each[1], x.factor(each[0], each[1], false), -1);
        }
        due.is("count", x.count(1), 0);
        for (int i = 0; i < 7; i++) {
            due.is("factor", x.factor(i % 2 == 0 ? 100 : 999, i % 3 == 0 ? 99 : -99, i % 2 == 0), i);
            due.is("count", x.count(1), i + 1);
        }
        due.is("factor 8", x.factor(200, 0, false), -1);
        due.is("count", x.count(1), 7);
        due.is("clear", x.clear(), 7);
        due.is("clear", x.clear(), 0);
        due.is("fewest", x.fewest(0), -1000);
        due.is("order", x.order(0), -1);
        due.is("factor again", x.factor(200, 0, false), 0);
    }

    /** A product of factors, each digits, place and 1 if it is over; what is due: slide and hair moves, place, order. */
    private static void product(int[][] factors, int slides, int hairs, int place, int... order) {
        SlideWorks x = new SlideWorks();
        StringBuilder call = new StringBuilder();
        for (int[] each : factors) {
            x.factor(each[0], each[1], each[2] == 1);
            call.append(each[2] == 1 ? " /" : " *").append(each[0]).append('e').append(each[1]);
        }
        due.is("slides of" + call, x.fewest(0), slides);
        due.is("hairs of" + call, x.fewest(1), hairs);
        due.is("place of" + call, x.fewest(2), place);
        for (int i = 0; i < order.length; i++) {
            due.is("order " + i + " of" + call, x.order(i), order[i]);
        }
        due.is("order behind" + call, x.order(order.length), -1);
        due.is("order ahead of" + call, x.order(-1), -1);
        due.is("fewest -1 of" + call, x.fewest(-1), -1000);
        due.is("fewest 3 of" + call, x.fewest(3), -1000);
    }

    private static void productOrders() {
        due.promise("promises 26, 27");
        product(new int[][] {{200, 5, 0}}, 0, 1, 5, 0);
        product(new int[][] {{200, 0, 1}}, 1, 1, -1, 0);
        product(new int[][] {{100, 3, 1}}, 1, 1, -3, 0);
        product(new int[][] {{200, 0, 1}, {300, 0, 1}}, 2, 2, -1, 0, 1);
        product(new int[][] {{200, 0, 1}, {600, 0, 0}}, 1, 2, 0, 1, 0);
        product(new int[][] {{200, 0, 0}, {300, 0, 0}}, 1, 2, 0, 0, 1);
        product(new int[][] {{200, 0, 0}, {600, 0, 0}}, 2, 2, 1, 0, 1);
        product(new int[][] {{200, 0, 0}, {300, 0, 0}, {400, 1, 0}}, 3, 3, 2, 0, 1, 2);
        // 2 / 3 * 6 needs one setting of the slide; the order as it stands, 2 * 6 / 3, would need three.
        product(new int[][] {{200, 0, 0}, {600, 0, 0}, {300, 0, 1}}, 1, 3, 0, 0, 2, 1);
        product(new int[][] {{200, 0, 0}, {300, 0, 1}, {600, 0, 0}}, 1, 3, 0, 0, 1, 2);
        // Behind an over the slide's ends may have to be changed: 6 / 2 * 9 beyond, 2 / 3 * 1.2 below.
        product(new int[][] {{600, 0, 0}, {200, 0, 1}, {900, 0, 0}}, 2, 3, 1, 0, 1, 2);
        product(new int[][] {{200, 0, 0}, {300, 0, 1}, {120, 0, 0}}, 2, 3, -1, 0, 1, 2);
        product(new int[][] {{999, 99, 0}, {999, 99, 0}, {999, 99, 0}, {999, 99, 0}, {999, 99, 0}, {999, 99, 0},
            {999, 99, 0}}, 12, 7, 7 * 99 + 6, 0, 1, 2, 3, 4, 5, 6);
        product(new int[][] {{200, -99, 1}, {300, -99, 1}, {400, -99, 1}, {500, -99, 1}, {600, -99, 1}, {700, -99, 1},
            {800, -99, 1}}, 7, 7, 7 * 99 - 5, 0, 1, 2, 3, 4, 5, 6);
        // Marks whose sum is 4096 itself do not stand beyond.
        product(new int[][] {{100, 0, 0}, {100, 0, 0}}, 1, 2, 0, 0, 1);
        product(new int[][] {{101, 0, 0}, {991, 0, 0}}, 1, 2, 0, 0, 1);
        product(new int[][] {{101, 0, 0}, {992, 0, 0}}, 2, 2, 1, 0, 1);
        product(new int[][] {{300, 0, 1}, {700, 1, 0}, {200, 0, 1}, {500, -1, 0}, {450, 0, 1}, {810, 2, 0}, {123, 0, 0}},
                4, 7, 3, 1, 0, 3, 2, 5, 4, 6);
    }

    private static void severalProducts() {
        due.promise("promises 24 to 27, one product behind another");
        SlideWorks x = new SlideWorks();
        x.factor(200, 0, false);
        due.is("slides", x.fewest(0), 0);
        x.factor(300, 0, false);
        x.factor(400, 0, false);
        due.is("order ahead of fewest", x.order(2), 2);
        due.is("slides", x.fewest(0), 3);
        due.is("place", x.fewest(2), 1);
        x.factor(300, 0, true);
        x.factor(900, 0, true);
        int[] best = {0, 1, 3, 2, 4};
        for (int i = 0; i < best.length; i++) {
            due.is("order " + i, x.order(i), best[i]);
        }
        due.is("slides", x.fewest(0), 3);
        due.is("clear", x.clear(), 5);
        x.factor(700, 0, true);
        x.factor(800, 0, true);
        x.factor(900, 0, true);
        due.is("order 0", x.order(0), 0);
        due.is("order 1", x.order(1), 1);
        due.is("slides", x.fewest(0), 3);
        due.is("hairs", x.fewest(1), 3);
        due.is("place", x.fewest(2), -3);
        due.is("clear", x.clear(), 3);
        x.factor(200, 0, false);
        due.is("slides", x.fewest(0), 0);
        due.is("hairs", x.fewest(1), 1);
        due.is("order 0", x.order(0), 0);
        due.is("order 1", x.order(1), -1);
    }

    private static void dividing() {
        due.promise("promises 28, 29");
        SlideWorks x = full();
        int[][] rows = {{D, 1, 0, 1, 1}, {D, 8, 0, 1, 1}, {D, 9, 0, 1, 1}, {D, 10, 0, 1, 2}, {D, 20, 0, 1, 5}, {D, 300, 0, 1, 50},
            {D, 300, 0, 9, 100}, {D, 300, 0, 3, 100}, {D, 1, 0, 9, 1}, {D, 2, 0, 9, 2}, {D, 20, 0, 9, 20}, {A, 20, 1, 1, 5}, {A, 1, 0, 9, 2},
            {A, 1, 1, 9, 2}, {K, 5, 2, 4, 5}, {K, 300, 0, 1, 100}, {B, 20, 0, 9, 20}, {B, 20, 0, 1, 5}};
        for (int[] each : rows) {
            due.is("step " + each[0] + " " + each[1] + " " + each[2] + " " + each[3],
                    x.step(0, each[0], each[1], each[2], each[3]), each[4]);
        }
        int[][] wrong = {{D, 0, 0, 1}, {D, 301, 0, 1}, {D, -1, 0, 1}, {D, 5, 1, 1}, {D, 5, -1, 1}, {D, 5, 0, 0},
            {D, 5, 0, 10}, {5, 5, 0, 1}, {-1, 5, 0, 1}, {A, 5, 2, 1}, {K, 5, 3, 1}, {D, MAX, 0, 1}, {D, 5, MIN, 1}};
        for (int[] each : wrong) {
            due.is("step " + each[0] + " " + each[1] + " " + each[2] + " " + each[3],
                    x.step(0, each[0], each[1], each[2], each[3]), -1);
        }
        due.is("step of rule 1", x.step(1, D, 5, 0, 1), -1);
        due.is("marks D 1", x.marks(0, D, 1), 901);
        due.is("marks D 300", x.marks(0, D, 300), 12);
        due.is("marks D 20", x.marks(0, D, 20), 116);
        due.is("marks B 20", x.marks(0, B, 20), 116);
        due.is("marks A 20", x.marks(0, A, 20), 135);
        due.is("marks K 300", x.marks(0, K, 300), 28);
        due.is("marks gap 0", x.marks(0, D, 0), -1);
        due.is("marks gap 301", x.marks(0, D, 301), -1);
        due.is("marks of scale 5", x.marks(0, 5, 20), -1);
        due.is("marks of scale -1", x.marks(0, -1, 20), -1);
        due.is("marks of rule 1", x.marks(1, D, 20), -1);
        x.flaw(0, D, 15, -20);
        due.is("by true places", x.marks(0, D, 20), 116);
    }

    private static void thread(SlideWorks x, int m, int e, int n, int f, int digits, int place) {
        String call = "thread " + m + " " + e + " " + n + " " + f;
        due.is(call, x.thread(m, e, n, f, 0), digits);
        due.is(call + ", place", x.thread(m, e, n, f, 1), place);
    }

    private static void chartAndThread() {
        due.promise("promises 30, 31");
        SlideWorks x = new SlideWorks();
        thread(x, 200, 0, 300, 0, 600, 0);
        thread(x, 500, 0, 500, 0, 250, 1);
        thread(x, 999, 99, 999, 99, 998, 199);
        thread(x, 100, -99, 100, -99, 100, -198);
        thread(x, 100, -1, 101, 0, 101, -1);
        int[][] wrong = {{99, 0, 200, 0, 0}, {1000, 0, 200, 0, 0}, {200, 0, 99, 0, 0}, {200, 0, 1000, 0, 0},
            {200, 100, 200, 0, 0}, {200, -100, 200, 0, 0}, {200, 0, 200, 100, 0}, {200, 0, 200, -100, 0},
            {200, 0, 200, 0, 2}, {200, 0, 200, 0, -1}, {200, MIN, 200, 0, 0}};
        for (int[] each : wrong) {
            due.is("thread " + each[0] + " " + each[1] + " " + each[2] + " " + each[3] + " " + each[4],
                    x.thread(each[0], each[1], each[2], each[3], each[4]), -1000);
        }
        int[][] off = {{0, 1, 4, 2}, {4, 1, 4, 2}, {1, 0, 4, 2}, {1, 4, 4, 2}, {1, 1, 0, 2}, {1, 1, 8, 2}, {1, 1, 4, 0},
            {1, 1, 4, 10}, {MIN, 1, 4, 2}, {1, 1, 4, MAX}};
        for (int[] each : off) {
            due.is("chart " + each[0] + " " + each[1] + " " + each[2] + " " + each[3],
                    x.chart(each[0], each[1], each[2], each[3]), false);
        }
        thread(x, 200, 0, 300, 0, 600, 0);
        due.is("chart 1 2 4 4", x.chart(1, 2, 4, 4), true);
        // The square of 2 times 3.
        thread(x, 200, 0, 300, 0, 120, 1);
        due.is("chart 3 3 7 9", x.chart(3, 3, 7, 9), true);
        thread(x, 100, -99, 100, -99, 100, -297);
        thread(x, 200, -98, 300, 97, 173, 219);
        due.is("chart 2 1 1 9", x.chart(2, 1, 1, 9), true);
        thread(x, 500, -1, 700, 2, 103, 2);
        due.is("chart 1 1 7 1", x.chart(1, 1, 7, 1), true);
        thread(x, 100, -1, 999, 0, 562, 0);
        due.is("chart 2 3 4 1", x.chart(2, 3, 4, 1), true);
        thread(x, 999, -1, 999, -1, 999, -1);
        due.is("chart 1 1 1 1", x.chart(1, 1, 1, 1), true);
        thread(x, 101, 1, 999, 0, 101, 1);
        // 4095 is as near to 999 as to the next place's 100.
        thread(x, 100, 1, 999, 0, 999, 0);
    }

    private static void design() {
        due.promise("promise 32");
        SlideWorks x = new SlideWorks();
        int[] want = {1142, 2144, 1164, 1244, 1144, 1268, 1124, 2128, 1146};
        for (int i = 1; i <= 3; i++) {
            for (int k = 1; k <= 3; k++) {
                due.is("design " + i + " " + k, x.design(i, k), want[3 * i + k - 4]);
            }
        }
        int[][] wrong = {{0, 1}, {4, 1}, {1, 0}, {1, 4}, {MIN, 1}, {1, MAX}};
        for (int[] each : wrong) {
            due.is("design " + each[0] + " " + each[1], x.design(each[0], each[1]), -1);
        }
        due.is("the chart stays", x.thread(200, 0, 300, 0, 0), 600);
    }

    private static void shownAndStrike() {
        due.promise("promises 33, 34");
        SlideWorks x = full();
        due.is("strike of none", x.strike(0), -1);
        int[][] wrong = {{1, D, 0, 200, A, 0, 400}, {-1, D, 0, 200, A, 0, 400}, {0, D, 0, 200, D, 0, 200},
            {0, 5, 0, 200, A, 0, 400}, {0, -1, 0, 200, A, 0, 400}, {0, D, 0, 200, 5, 0, 400}, {0, D, 0, 200, -1, 0, 400},
            {0, D, 1, 101, A, 0, 400}, {0, D, 0, 99, A, 0, 400}, {0, D, 0, 1000, A, 0, 400}, {0, D, -1, 200, A, 0, 400},
            {0, D, 0, 200, A, 3, 100}, {0, D, 0, 200, A, 2, 101}, {0, D, 0, 200, A, 0, 99}};
        for (int[] w : wrong) {
            due.is("shown of " + w[0] + " " + w[1] + " " + w[2] + " " + w[3] + " " + w[4] + " " + w[5] + " " + w[6],
                    x.shown(w[0], w[1], w[2], w[3], w[4], w[5], w[6]), -1);
        }
        due.is("facts", x.count(2), 0);
        due.is("shown", x.shown(0, D, 0, 200, A, 0, 400), 0);
        due.is("shown of last marks", x.shown(0, D, 1, 100, K, 3, 100), 1);
        due.is("strike -1", x.strike(-1), -1);
        due.is("strike 2", x.strike(2), -1);
        due.is("strike 1", x.strike(1), 2);
        due.is("strike a strike", x.strike(2), -1);
        due.is("strike again", x.strike(1), 3);
        due.is("facts", x.count(2), 4);
        for (int i = 4; i < 80; i++) {
            due.is("shown", x.shown(0, C, 0, 200, K, 2, 400), i);
        }
        due.is("shown 81", x.shown(0, C, 0, 200, K, 2, 400), -1);
        due.is("strike 81", x.strike(0), -1);
        due.is("facts", x.count(2), 80);
    }

    private static void guess(SlideWorks x, int n, int i, int scale, int stretch, int flaw) {
        due.is("guess " + n + " " + i, x.guess(0, n, i, 0), scale);
        due.is("guess " + n + " " + i + ", stretch", x.guess(0, n, i, 1), stretch);
        due.is("guess " + n + " " + i + ", flaw", x.guess(0, n, i, 2), flaw);
    }

    private static void guesses() {
        due.promise("promises 35, 36");
        SlideWorks x = full();
        due.is("all", x.guesses(0, 0), 3201);
        guess(x, 0, 0, -2, 0, 0);
        guess(x, 0, 1, 0, 0, -20);
        guess(x, 0, 20, 0, 0, -1);
        guess(x, 0, 21, 0, 0, 1);
        guess(x, 0, 40, 0, 0, 20);
        guess(x, 0, 41, 0, 1, -20);
        guess(x, 0, 640, 0, 15, 20);
        guess(x, 0, 641, 1, 0, -20);
        guess(x, 0, 3200, 4, 15, 20);
        guess(x, 0, 3201, -1000, -1000, -1000);
        guess(x, 0, -1, -1000, -1000, -1000);
        due.is("what -1", x.guess(0, 0, 0, -1), -1000);
        due.is("what 3", x.guess(0, 0, 0, 3), -1000);
        due.is("rule 1", x.guess(1, 0, 0, 0), -1000);
        due.is("n 1", x.guess(0, 1, 0, 0), -1000);
        due.is("n -1", x.guess(0, -1, 0, 0), -1000);
        due.is("guesses of rule 1", x.guesses(1, 0), -1);
        due.is("guesses of rule -1", x.guesses(-1, 0), -1);
        due.is("guesses by 1", x.guesses(0, 1), -1);
        due.is("guesses by -1", x.guesses(0, -1), -1);
        x.rule();
        due.is("of a bare rule", x.guesses(1, 0), 1);
        // 204 of D, at 1268, and 2 of C, at 1233, both in stretch 4: 35 apart.
        x.shown(0, D, 0, 204, C, 0, 200);
        due.is("none is 35 - 20 apart by 12", x.guesses(0, 1), 0);
        due.is("no guess", x.guess(0, 1, 0, 0), -1000);
        due.is("as known ahead", x.guesses(0, 0), 3201);
        x.steps(4, 11);
        due.is("by 15", x.guesses(0, 1), 2);
        guess(x, 1, 0, 0, 4, -20);
        guess(x, 1, 1, 1, 4, 20);
        guess(x, 1, 2, -1000, -1000, -1000);
        x.steps(4, 30);
        due.is("by 34", x.guesses(0, 1), 40);
        guess(x, 1, 0, 0, 4, -20);
        guess(x, 1, 19, 0, 4, -1);
        guess(x, 1, 20, 1, 4, 1);
        x.steps(4, 31);
        due.is("by 35", x.guesses(0, 1), 3201 - 40);
        guess(x, 1, 0, -2, 0, 0);
        guess(x, 1, 1, 0, 0, -20);
        x.flaw(0, D, 4, 9);
        due.is("whatever was cut", x.guesses(0, 1), 3201 - 40);
        due.is("of the other rule", x.guesses(1, 1), 1);
    }

    private static void sureAndOdd() {
        due.promise("promises 37, 38");
        SlideWorks x = full();
        x.rule();
        due.is("sure of rule 2", x.sure(2, 0), -1);
        due.is("sure of rule -1", x.sure(-1, 0), -1);
        due.is("sure by 1", x.sure(0, 1), -1);
        due.is("sure by -1", x.sure(0, -1), -1);
        due.is("odd of rule 2", x.odd(2, 0), -1);
        due.is("odd by 1", x.odd(0, 1), -1);
        due.is("odd by -1", x.odd(0, -1), -1);
        due.is("sure by 0", x.sure(0, 0), -2);
        due.is("odd by 0", x.odd(0, 0), -1);
        // D at 1233 was seen where C has 1250, and A as well.
        x.shown(0, D, 0, 200, C, 0, 202);
        x.shown(0, D, 0, 200, A, 0, 408);
        due.is("two may be wrong", x.sure(0, 1), -2);
        due.is("guesses by 1", x.guesses(0, 1), 32);
        due.is("only D", x.sure(0, 2), 0);
        due.is("guesses by 2", x.guesses(0, 2), 16);
        guess(x, 2, 0, 0, 4, 5);
        guess(x, 2, 15, 0, 4, 20);
        due.is("either may be odd, by 2", x.odd(0, 2), 0);
        x.shown(0, D, 0, 200, C, 0, 200);
        due.is("still D", x.sure(0, 3), 0);
        due.is("guesses by 3", x.guesses(0, 3), 8);
        due.is("odd by 3", x.odd(0, 3), 0);
        x.shown(0, K, 0, 300, C, 0, 900);
        due.is("none fits", x.sure(0, 4), -2);
        due.is("guesses by 4", x.guesses(0, 4), 0);
        due.is("without the last", x.odd(0, 4), 3);
        x.strike(3);
        due.is("guesses by 5", x.guesses(0, 5), 8);
        due.is("sure by 5", x.sure(0, 5), 0);
        due.is("odd by 5", x.odd(0, 5), 0);
        due.is("odd of the other", x.odd(1, 5), -1);
        due.is("sure of the other", x.sure(1, 5), -2);
        x.strike(0);
        x.strike(1);
        x.strike(2);
        due.is("all struck", x.odd(0, 8), -1);
        due.is("all fit", x.guesses(0, 8), 3201);
        due.is("odd before", x.odd(0, 7), 2);
    }

    private static void edgesOfGuesses() {
        due.promise("promises 35 to 38, edges");
        SlideWorks x = new SlideWorks();
        x.rule();
        x.scale(0, true, 1, false);
        due.is("the true one fits, and those of one scale", x.sure(0, 0), -2);
        due.is("guesses", x.guesses(0, 0), 641);
        for (int i = 1; i < 8; i++) {
            x.scale(0, i % 2 == 0, 1, false);
        }
        due.is("of eight scales", x.guesses(0, 0), 5121);
        guess(x, 0, 5120, 7, 15, 20);
        guess(x, 0, 4481, 7, 0, -20);
        guess(x, 0, 5121, -1000, -1000, -1000);
        x.shown(0, 0, 0, 200, 1, 0, 200);
        // 3 and 3.02 are 12 apart, so that a flaw of 1 is too much.
        x.shown(0, 0, 0, 300, 1, 0, 302);
        due.is("just fits", x.guesses(0, 2), 5121 - 16 - 16 - 40);
        due.is("without the nearest to failing", x.odd(0, 2), 1);
        x.steps(1, 10);
        due.is("just does not", x.guesses(0, 2), 40);
        guess(x, 2, 0, 0, 7, 1);
        guess(x, 2, 20, 1, 7, -20);
        x.shown(0, 7, 1, 100, 6, 0, 999);
        due.is("the last marks, none fits but by 0 and 1", x.guesses(0, 3), 40);
        x.strike(1);
        due.is("the last stretch", x.guesses(0, 4), 5121 - 4 * 9 - 2 * (11 + 7));
    }

    private static void knownBy() {
        due.promise("promises 35 to 38, as known by n");
        SlideWorks x = full();
        x.rule();
        fullRule(x, 1);
        x.shown(0, D, 0, 204, C, 0, 200);
        x.shown(1, D, 0, 200, C, 0, 200);
        x.strike(0);
        x.shown(1, A, 0, 999, K, 2, 999);
        due.is("by 0", x.guesses(0, 0), 3201);
        due.is("by 1", x.guesses(0, 1), 0);
        due.is("by 2", x.guesses(0, 2), 0);
        due.is("by 3", x.guesses(0, 3), 3201);
        due.is("odd by 2", x.odd(0, 2), 0);
        due.is("odd by 3", x.odd(0, 3), -1);
        due.is("rule 1 by 1", x.guesses(1, 1), 3201);
        due.is("rule 1 by 2", x.guesses(1, 2), 3201 - 32);
        due.is("rule 1 by 3", x.guesses(1, 3), 3201 - 32);
        due.is("rule 1 by 4", x.guesses(1, 4), 0);
        due.is("rule 1 odd by 4", x.odd(1, 4), 3);
        due.is("rule 1 by 5", x.guesses(1, 5), -1);
    }

    private static void counts() {
        due.promise("promise 39");
        SlideWorks x = full();
        x.rule();
        x.factor(200, 0, false);
        x.factor(200, 0, true);
        x.factor(300, 0, true);
        x.shown(0, D, 0, 200, C, 0, 200);
        x.shown(0, D, 0, 200, C, 0, 200);
        x.shown(0, D, 0, 200, C, 0, 200);
        x.strike(0);
        Texts.read(x, "let b=1;let a=b;let b=a;let c=2;let d=2;let e=a;");
        Texts.feed(x, "let b");
        x.steps(7, 33);
        int[] want = {2, 3, 4, 5, 5, 7, 33};
        for (int i = 0; i < want.length; i++) {
            due.is("count " + i, x.count(i), want[i]);
        }
        due.is("count -1", x.count(-1), -1);
        due.is("count 7", x.count(7), -1);
        due.is("count least", x.count(MIN), -1);
    }
}
