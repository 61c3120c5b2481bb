/** Boundaries of a run in part III; promises 19 to 23. */
final class EdgeRuns {
    private static final int D = 0;
    private static final int C = 1;
    private static final int A = 2;
    private static final int B = 4;

    private final Due due;

    EdgeRuns(Due due) {
        this.due = due;
    }

    void test() {
        withoutProgram();
        stepsOfLets();
        stepsOfBlocks();
        stepsInTurns();
        turns();
        turnsLeftBehind();
        placesOfValues();
        placesOfSquares();
        placesOfCubes();
        placesOfRoots();
        placesOfOver();
        placesOnTheWay();
        doubtsOf999();
        doubtsByHand();
        doubtsBeforeFalling();
        hairFallsOff();
        slideFallsOff();
        showsNothing();
        endsOfTheSlide();
        looseRoundedUp();
        surely();
        whereInTheText();
        breaksLeaveAll();
        noValueToBeginWith();
        valueEdges();
    }

    /** A full rule in hand, with steps that leave numbers without a doubt from the hand. */
    private static SlideWorks steady() {
        SlideWorks x = PromiseTest.full();
        x.steps(0, 9);
        return x;
    }

    private void runs(SlideWorks x, String text) {
        due.is("read '" + text + "'", Texts.read(x, text), 0);
        due.is("run of '" + text + "'", x.run() >= 0, true);
    }

    private void breaks(SlideWorks x, String text, int why, int where) {
        due.is("read '" + text + "'", Texts.read(x, text), 0);
        due.is("run of '" + text + "'", x.run(), -2);
        due.is("broke of '" + text + "'", x.broke(), why);
        due.is("where of '" + text + "'", x.where(), where);
    }

    private void number(SlideWorks x, String of, int name, int digits, int place) {
        due.is("digits of " + name + ", " + of, x.value(name, 0), digits);
        due.is("place of " + name + ", " + of, x.value(name, 1), place);
    }

    /** A product of numbers alone that comes to digits at a place. */
    private static String times(String digits, int place) {
        StringBuilder text = new StringBuilder(digits);
        int left = place;
        while (left >= 3) {
            text.append("*1000");
            left -= 3;
        }
        while (left <= -4) {
            text.append("*0.0001");
            left += 4;
        }
        String[] rest = {"*0.001", "*0.01", "*0.1", "", "*10", "*100"};
        return text.append(rest[left + 3]).toString();
    }

    private void withoutProgram() {
        due.promise("run: without a STEP to be done");
        SlideWorks x = PromiseTest.full();
        due.is("no PROGRAM", x.run(), 0);
        due.is("moves", x.moves(), 0);
        due.is("broke", x.broke(), 0);
        due.is("where", x.where(), -1);
        due.is("value", x.value(0, 0), -1000);
        runs(x, "let a=2*3;");
        due.is("moves", x.moves(), 2);
        due.is("an empty text", x.read(), 0);
        due.is("run of it", x.run(), 0);
        due.is("moves of it", x.moves(), 0);
        runs(x, "repeat 0 let a=2; end");
        due.is("moves", x.moves(), 0);
        due.is("a NAME without a VALUE", x.value(0, 0), -1000);
        due.is("it stands as it stood", x.state(1), 1233);
    }

    /** Blocks that take so many steps and do nothing. */
    private static String idle(int steps) {
        StringBuilder text = new StringBuilder();
        int left = steps;
        while (left > 0) {
            int turns = Math.min(99, left);
            text.append("repeat ").append(turns).append(" end ");
            left -= turns;
        }
        return text.toString();
    }

    private void exactly(String step, int costs) {
        SlideWorks x = PromiseTest.full();
        runs(x, idle(200 - costs) + step);
        String more = idle(201 - costs);
        breaks(x, more + step, 1, more.length());
    }

    private void stepsOfLets() {
        due.promise("it would be the 201st: let, and each POWER of a let, one more");
        StringBuilder let = new StringBuilder("let a=2");
        for (int powers = 1; powers <= 10; powers++) {
            exactly(let + ";", 1 + powers);
            let.append(powers % 2 == 0 ? "*" : "/").append(powers % 3 == 0 ? "square 2" : "3");
        }
        exactly("let a=square 2;", 2);
        exactly("let a=over 2/third 8;", 3);
    }

    private void stepsOfBlocks() {
        due.promise("it would be the 201st: repeat, if, each time; a further turn of repeat counts one more");
        exactly("repeat 0 let a=2; end", 1);
        exactly("repeat 1 end", 1);
        for (int turns = 2; turns <= 99; turns += 7) {
            exactly("repeat " + turns + " end", turns);
        }
        exactly("if 1<2 end", 1);
        exactly("if 2<1 let a=2; end", 1);
        exactly("if 2<1 let a=2; else end", 1);
        exactly("if surely 2==2 end", 1);
        SlideWorks x = PromiseTest.full();
        runs(x, "repeat 99 repeat 1 end end repeat 2 end");
        breaks(x, "repeat 99 repeat 1 end end repeat 3 end", 1, 27);
        runs(x, "repeat 50 repeat 3 end end");
        breaks(x, "repeat 51 repeat 3 end end", 1, 0);
        breaks(x, " repeat 67 repeat 2 end end", 1, 11);
    }

    private void stepsInTurns() {
        due.promise("it BREAKS at a STEP, in the order in which they are done: the 201st in a further turn");
        // Of the nine steps of this repeat: itself, let, its power, a further turn, and so on.
        String loop = "repeat 3 let a=2; end";
        for (int ahead = 191; ahead <= 200; ahead++) {
            String text = idle(ahead) + loop;
            SlideWorks x = PromiseTest.full();
            if (ahead + 9 <= 200) {
                runs(x, text);
            } else {
                int at = idle(ahead).length();
                breaks(x, text, 1, (200 - ahead) % 3 == 0 ? at : at + 9);
            }
        }
    }

    private void turns() {
        due.promise("repeat: its STEPS so many times");
        for (int turns = 0; turns <= 12; turns++) {
            SlideWorks x = steady();
            runs(x, "let a=1;repeat " + turns + " let a=a*10;end let b=a;");
            number(x, turns + " turns", 1, 100, turns);
        }
        SlideWorks x = steady();
        runs(x, "let a=1;repeat 0003 repeat 02 let a=a*10;end end");
        number(x, "3 by 2", 0, 100, 6);
        runs(x, "let a=1;repeat 3 repeat 0 let a=a*10;end end");
        number(x, "3 by 0", 0, 100, 0);
        runs(x, "repeat 99 end let a=1;repeat 33 let a=1; end");
        due.is("moves", x.moves(), 34);
    }

    private void turnsLeftBehind() {
        due.promise("a RUN that broke in the midst of its turns leaves none of them to the next one");
        String[] broken = {"repeat 50 repeat 9 let a=1; end end", "if 1<2 repeat 99 let a=1; end end"};
        for (String each : broken) {
            SlideWorks x = steady();
            due.is("read", Texts.read(x, each), 0);
            due.is("it breaks", x.run(), -2);
            due.is("too long", x.broke(), 1);
            runs(x, "if 1<2 if 2<3 let a=1; end end");
            due.is("an if is done once behind '" + each + "'", x.moves(), 1);
            runs(x, "if 2<1 else let a=1; end let b=1;");
            due.is("an else is done once behind '" + each + "'", x.moves(), 2);
            runs(x, "repeat 2 repeat 3 let a=1; end end");
            due.is("turns are as told behind '" + each + "'", x.moves(), 6);
            due.is("read", Texts.read(x, each), 0);
            due.is("it breaks again", x.run(), -2);
            runs(x, "repeat 0 let a=1; end let b=1;");
            due.is("no turns are none behind '" + each + "'", x.moves(), 1);
        }
    }

    private void value(String text, int digits, int place) {
        SlideWorks x = steady();
        runs(x, "let a=" + text + ";");
        number(x, text, 0, digits, place);
    }

    private void placesOfValues() {
        due.promise("a PLACE of a VALUE (of its LOW, HIGH one) comes to be beyond -99 .. 99");
        value(times("1", 99), 100, 99);
        breaks(steady(), "let a=" + times("1", 100) + ";", 3, 0);
        value(times("1", -99), 100, -99);
        breaks(steady(), "let a=" + times("1", -100) + ";", 3, 0);
        // 9.9 is seen alone, the HIGH one of 9.99 is 1 of the next place.
        value(times("9.9", 99), 990, 99);
        value(times("9.99", 98), 999, 98);
        breaks(steady(), "let a=" + times("9.99", 99) + ";", 3, 0);
        breaks(steady(), "let a=" + times("9.9", 100) + ";", 3, 0);
        value(times("9.99", -99), 999, -99);
        // 1.01 and 9.91 bring the hair to the end: the NUMBER is of the next place, the LOW one is not.
        value(times("1.01*9.91", 98), 100, 99);
        breaks(steady(), "let a=" + times("1.01*9.91", 99) + ";", 3, 0);
        value(times("1.01*9.91", -99), 100, -98);
        breaks(steady(), "let a=" + times("1.01*9.91", -100) + ";", 3, 0);
        SlideWorks x = steady();
        String first = "let b=" + times("1", 99) + ";";
        breaks(x, first + "if b==b let a=b*10; end", 3, first.length() + 8);
    }

    /** A let whose POWER itself is beyond, while what its let comes to would not be. */
    private void power(String word, String digits, int place, String back, boolean fine) {
        String first = "let n=" + times(digits, place) + ";";
        SlideWorks x = steady();
        if (fine) {
            runs(x, first + "let m=" + word + " n" + back + ";");
        } else {
            breaks(x, first + "let m=" + word + " n" + back + ";", 3, first.length());
        }
    }

    private void placesOfSquares() {
        due.promise("a PLACE of a POWER comes to be beyond: square");
        power("square", "1", 49, "/1000", true);
        power("square", "5", 49, "/1000", true);
        power("square", "9.8", 49, "/1000", true);
        // The HIGH one of 9.99 is the end of A, of the decade 2.
        power("square", "9.99", 49, "/1000", false);
        power("square", "9.99", 48, "/1000", true);
        power("square", "1", 50, "/1000", false);
        power("square", "1", -49, "*1000", true);
        power("square", "5", -50, "*1000", true);
        power("square", "3.3", -50, "*1000", true);
        // 3.17 is seen in the decade 1, its LOW one in the decade 0.
        power("square", "3.17", -50, "*1000", false);
        power("square", "3.1", -50, "*1000", false);
        power("square", "1", -50, "*1000", false);
        power("square", "9.9", -51, "*1000", false);
    }

    private void placesOfCubes() {
        due.promise("a PLACE of a POWER comes to be beyond: cube");
        power("cube", "1", 33, "/1000", true);
        power("cube", "2", 33, "/1000", true);
        power("cube", "2.15", 33, "/1000", false);
        power("cube", "3", 33, "/1000", false);
        power("cube", "9.8", 32, "/1000", true);
        power("cube", "1", 34, "/1000", false);
        power("cube", "1", -33, "*1000", true);
        power("cube", "9", -34, "*1000", false);
        power("cube", "1", -34, "*1000", false);
    }

    private void placesOfRoots() {
        due.promise("root, third: PLACE of n by 2 (3), rounded down");
        int[][] rows = {{99, 316, 49, 100, 33}, {98, 100, 49, 464, 32}, {97, 316, 48, 215, 32}, {-99, 316, -50, 100, -33},
            {-98, 100, -49, 215, -33}, {-97, 316, -49, 464, -33}, {-1, 316, -1, 464, -1}, {-2, 100, -1, 215, -1},
            {-3, 316, -2, 100, -1}, {-4, 100, -2, 464, -2}, {1, 316, 0, 215, 0}, {2, 100, 1, 464, 0}, {3, 316, 1, 100, 1}};
        for (int[] each : rows) {
            SlideWorks x = steady();
            runs(x, "let n=" + times("1", each[0]) + ";let b=root n;let c=third n;");
            number(x, "root of place " + each[0], 1, each[1], each[2]);
            number(x, "third of place " + each[0], 2, each[3], each[4]);
        }
    }

    private void placesOfOver() {
        due.promise("a PLACE of a POWER comes to be beyond: over");
        power("over", "2", 98, "*1000", true);
        power("over", "1", 98, "*1000", true);
        power("over", "2", 99, "*1000", false);
        // Of 1 the NUMBER is of the decade 1, its LOW one of the decade 0.
        power("over", "1", 99, "*1000", false);
        power("over", "1", -99, "/1000", true);
        power("over", "2", -99, "/1000", true);
        SlideWorks x = steady();
        runs(x, "let n=" + times("2", -99) + ";let m=over n;");
        number(x, "over of place -99", 1, 500, 98);
    }

    private void placesOnTheWay() {
        due.promise("a PLACE beyond on the way of a let is none of a VALUE");
        value(times("1", 105) + "/1000/1000", 100, 99);
        value(times("1", -105) + "/0.001/0.001", 100, -99);
        value(times("1", 105) + "*0.001*0.001", 100, 99);
    }

    private void doubtsOf999() {
        due.promise("u or v is above 999");
        // A HAND of 9: u is 18 for each of 55 factors, v 9 more than 990.
        SlideWorks x = PromiseTest.full();
        x.steps(9, 9);
        runs(x, "let a=1" + "*1".repeat(55) + ";");
        due.is("u", x.state(3), 990);
        due.is("v", x.state(4), 999);
        // One change of ends more: u comes to 999, v beyond it.
        breaks(x, "let b=2;let a=9" + "*1".repeat(54) + "*2;", 4, 8);
        runs(x, "let a=9" + "*1".repeat(53) + "*2;");
        due.is("v", x.state(4), 990);
        breaks(x, "let a=1" + "*1".repeat(56) + ";", 4, 0);
        x.steps(8, 9);
        runs(x, "let a=1" + "*1".repeat(61) + ";");
        due.is("v", x.state(4), 984);
        breaks(x, "let a=1" + "*1".repeat(62) + ";", 4, 0);
        runs(x, "let a=1" + "/1".repeat(61) + ";");
        due.is("v", x.state(4), 984);
        breaks(x, "let a=1" + "/1".repeat(62) + ";", 4, 0);
        x.steps(0, 9);
        runs(x, "let a=1" + "*1".repeat(190) + ";");
        due.is("v without a HAND", x.state(4), 0);
    }

    /** A full rule with u as it is wanted, by hand: s, h and v are 0. */
    private SlideWorks doubtful(int u) {
        SlideWorks x = PromiseTest.full();
        int left = u;
        while (left > 20) {
            int hand = Math.min(20, left / 2);
            x.steps(hand, 9);
            x.index(false);
            x.hair(C, 100, 0);
            left -= 2 * hand;
        }
        x.steps(left, 9);
        x.index(false);
        due.is("u", x.state(3), u);
        x.steps(0, 9);
        x.hair(D, 100, 0);
        due.is("v", x.state(4), 0);
        return x;
    }

    private void doubtsByHand() {
        due.promise("also one that was so ahead of the RUN, as set by hand");
        String[] texts = {"let a=2;", "let a=square 2;", "let a=third 2;"};
        for (String each : texts) {
            SlideWorks x = doubtful(999);
            runs(x, each);
            due.is("u stays", x.state(3), 999);
            x = doubtful(1000);
            breaks(x, "if 1<2 " + each + " end", 4, 7);
            due.is("u stays", x.state(3), 1000);
            runs(x, "if 1<2 repeat 5 end end");
        }
        // The hair on C takes u over.
        SlideWorks x = doubtful(999);
        x.steps(1, 9);
        breaks(x, "let a=over 2;", 4, 0);
        // A v of before is gone as soon as the hair is set.
        x = doubtful(999);
        x.steps(20, 9);
        x.hair(C, 100, 0);
        due.is("v", x.state(4), 1019);
        runs(x, "let a=2;");
        due.is("v", x.state(4), 20);
    }

    private void doubtsBeforeFalling() {
        due.promise("at the first of these that comes");
        // What falls off is not set: 5, though u is above 999; set, it would be 4.
        SlideWorks x = doubtful(1000);
        x.flaw(0, D, 0, -1);
        breaks(x, "let a=1;", 5, 0);
        breaks(x, "let a=2;", 4, 0);
        // A doubt is looked at ahead of the scale that is then missed.
        x = new SlideWorks();
        x.rule();
        x.scale(0, true, 1, false);
        x.scale(0, false, 2, false);
        x.take(0);
        x.steps(20, 9);
        for (int i = 0; i < 25; i++) {
            x.index(false);
            x.hair(1, 100, 0);
        }
        x.index(false);
        due.is("u", x.state(3), 1020);
        breaks(x, "let a=square 2;", 4, 0);
        breaks(x, "let a=over 2;", 2, 0);
        x.take(0);
        breaks(x, "let a=square 2;", 2, 0);
        // The end comes to the hair ahead of the use of C; behind a / it is C that comes first.
        breaks(x, "let a=2*3;", 2, 0);
        breaks(x, "let a=2/3;", 2, 0);
    }

    private void hairFallsOff() {
        due.promise("5: the hair FALLS OFF");
        SlideWorks x = PromiseTest.full();
        x.flaw(0, D, 0, -1);
        breaks(x, "let a=1;", 5, 0);
        breaks(x, "let a=square 1;", 5, 0);
        breaks(x, "let a=cube 1;", 5, 0);
        x.flaw(0, D, 0, 0);
        runs(x, "let a=1;let b=square 1;let c=cube 1;");
        x.flaw(0, D, 15, 2);
        runs(x, "let a=9.99;");
        due.is("h at the end", x.state(2), 4096);
        x.flaw(0, D, 15, 3);
        breaks(x, "let b=2;let a=9.99;", 5, 8);
        x = PromiseTest.full();
        x.flaw(0, A, 0, -1);
        breaks(x, "let a=root 1;", 5, 0);
        runs(x, "let a=root 10;");
        x = PromiseTest.full();
        x.flaw(0, 3, 0, -1);
        breaks(x, "let a=third 1;", 5, 0);
        runs(x, "let a=third 10;");
        x = PromiseTest.full();
        x.flaw(0, C, 15, 3);
        breaks(x, "let a=over 9.99;", 5, 0);
        // With the slide at -1 it comes to 4096: x is 4097, where B shows nothing either.
        x.take(0);
        x.flaw(0, D, 15, 1);
        x.hair(D, 999, 0);
        x.index(true);
        due.is("s", x.state(1), -1);
        breaks(x, "let a=over 9.99;", 5, 0);
        x.flaw(0, C, 15, 2);
        runs(x, "let a=over 9.99;");
        breaks(x, "let a=over 1;", 5, 0);
        // Behind a change of ends the mark may still stand beyond, by its flaw.
        x = PromiseTest.full();
        x.flaw(0, D, 15, 2);
        x.flaw(0, C, 15, 20);
        breaks(x, "let a=9.99*9.99;", 5, 0);
        x.flaw(0, C, 15, 2);
        runs(x, "let a=9.99*9.99;");
        x = PromiseTest.full();
        x.flaw(0, C, 15, 2);
        x.flaw(0, C, 0, -20);
        breaks(x, "let a=1/9.99*1;", 5, 0);
        x.flaw(0, C, 0, 0);
        runs(x, "let a=1/9.99*1;");
    }

    private void slideFallsOff() {
        due.promise("5: the slide FALLS OFF");
        SlideWorks x = PromiseTest.full();
        x.flaw(0, C, 15, 3);
        breaks(x, "let a=1/9.99;", 5, 0);
        x.flaw(0, C, 15, 2);
        runs(x, "let a=1/9.99;");
        due.is("s", x.state(1), -4096);
        due.is("h", x.state(2), 0);
        number(x, "1/9.99", 0, 100, -1);
        // The slide at -1 and C's 9.99 at 4114: by -4096 it would come to -4097.
        x = PromiseTest.full();
        x.flaw(0, D, 4, -1);
        x.flaw(0, C, 15, 20);
        breaks(x, "let a=2/2*9.99;", 5, 0);
        x.flaw(0, D, 4, 0);
        runs(x, "let a=2/2*9.99;");
        due.is("s", x.state(1), -4096);
        due.is("h", x.state(2), 18);
        number(x, "2/2*9.99", 0, 101, 1);
    }

    private void showsNothing() {
        due.promise("5: something shows nothing");
        SlideWorks x = PromiseTest.full();
        x.hair(D, 500, 0);
        x.index(false);
        x.flaw(0, C, 0, -1);
        breaks(x, "let a=over 1;", 5, 0);
        x.flaw(0, C, 0, 0);
        runs(x, "let a=over 1;");
        number(x, "over 1", 0, 100, 0);
        x = PromiseTest.full();
        x.hair(D, 500, 0);
        x.index(true);
        x.flaw(0, C, 15, 3);
        breaks(x, "let a=over 9.99;", 5, 0);
        x.flaw(0, C, 15, 2);
        runs(x, "let a=over 9.99;");
        number(x, "over 9.99", 0, 100, -1);
    }

    private void product(String text, int slides, int digits, int place) {
        SlideWorks x = steady();
        due.is("read '" + text + "'", Texts.read(x, "let a=" + text + ";"), 0);
        due.is("run of '" + text + "'", x.run(), slides);
        number(x, text, 0, digits, place);
    }

    private void endsOfTheSlide() {
        due.promise("if b's MARK of C stands beyond 4096; below 0; if the SLIDE's end 0 stands below 0");
        // 4096 itself is not beyond, 0 itself not below.
        product("1.01*9.91", 1, 100, 1);
        product("1.01*9.92", 2, 100, 1);
        product("1/2*2", 1, 100, 0);
        product("1/2*1.99", 2, 995, -1);
        product("1/2*2.01", 1, 100, 0);
        product("2/2", 1, 100, 0);
        product("2/2*3", 1, 300, 0);
        product("2/2.01", 1, 996, -1);
        product("2/1.99", 1, 101, 0);
        product("2/2.01*3", 1, 299, 0);
        product("2/2*1", 1, 100, 0);
        product("9.99*1", 1, 999, 0);
        product("1*9.99", 1, 999, 0);
        product("1/1", 1, 100, 0);
        product("1/9.99", 1, 100, -1);
    }

    private void looseRoundedUp() {
        due.promise("LOOSE: by FOLD, rounded up");
        // With no HAND v is the LOOSE alone, of what was seen within 9.
        String[] digits = {"1", "1.5", "2", "3", "4", "5", "6.5", "7", "8.88", "9.9"};
        for (String each : digits) {
            int m = (int) Math.round(Double.parseDouble(each) * 100);
            int at = EdgeTest.units(m);
            int low = m;
            while (low > 100 && at - EdgeTest.units(low - 1) <= 9) {
                low--;
            }
            int high = m;
            while (high < 999 && EdgeTest.units(high + 1) - at <= 9) {
                high++;
            }
            int loose = Math.max(at - EdgeTest.units(low), EdgeTest.units(high) - at);
            for (String word : new String[] {"square", "cube", "root", "third", "over", ""}) {
                int fold = word.equals("root") ? 2 : word.equals("third") ? 3 : 1;
                SlideWorks x = PromiseTest.full();
                x.steps(0, 9);
                runs(x, "let n=" + each + ";");
                due.is("low of " + each, x.value(0, 2), low);
                due.is("high of " + each, x.value(0, 4), high);
                int v = (loose + fold - 1) / fold;
                seenWith(x, each, word, v);
            }
        }
    }

    /** That a word's look was within 9 and v: LOW and HIGH of its number are those that a look by hand gives. */
    private void seenWith(SlideWorks x, String digits, String word, int v) {
        int m = (int) Math.round(Double.parseDouble(digits) * 100);
        boolean root = word.equals("root");
        boolean third = word.equals("third");
        int from = root ? A : third ? 3 : word.equals("over") ? C : D;
        int to = word.equals("square") ? A : word.equals("cube") ? 3 : word.equals("over") ? B : D;
        int at = x.cut(0, from, 0, m);
        int low = x.seen(0, to, at, 9 + v, 1);
        int high = x.seen(0, to, at, 9 + v, 2);
        int seen = x.seen(0, to, at, 9 + v, 0);
        runs(x, "let n=" + digits + ";let p=" + word + " n;");
        // The hair comes to what was seen, and v is its LOOSE, by units and decades on D.
        int loose = Math.max(reach(seen) - reach(low), reach(high) - reach(seen));
        due.is("LOOSE of " + word + " " + digits, x.state(4), word.isEmpty() ? v : loose);
    }

    /** REACH of what seen() answers, its decade for the place. */
    private static int reach(int seen) {
        return EdgeTest.units(seen % 1000) + 4096 * (seen / 1000);
    }

    private void choice(String begin, String condition, boolean holds) {
        SlideWorks x = steady();
        runs(x, begin + "if " + condition + " let z=1; else let z=2; end let y=z;");
        number(x, condition, x.count(3) - 1, holds ? 100 : 200, 0);
    }

    private void surely() {
        due.promise("surely: HIGH less than LOW; == if all four are alike (of a NUM all are itself)");
        // Within 9 of 1 there is no other mark: the four are alike. Of 3 they are 2.98 to 3.02.
        String lets = "let a=1;let b=1;let c=3;let d=10;";
        choice(lets, "surely a==b", true);
        choice(lets, "surely a==1", true);
        choice(lets, "surely 1==a", true);
        choice(lets, "surely a==a", true);
        choice(lets, "surely a==d", false);
        choice(lets, "surely c==c", false);
        choice(lets, "surely c==3", false);
        choice(lets, "surely 3==c", false);
        choice(lets, "c==3", true);
        choice(lets, "surely c<3.01", false);
        choice(lets, "surely c<3.02", true);
        choice(lets, "surely 2.99<c", false);
        choice(lets, "surely 2.98<c", true);
        choice(lets, "c<3.01", true);
        choice(lets, "c<3", false);
        choice(lets, "2.99<c", true);
        choice(lets, "surely a<d", true);
        choice(lets, "surely d<a", false);
        choice(lets, "a<d", true);
        choice(lets, "surely 9.99<d", true);
        choice(lets, "surely 10<d", false);
        choice(lets, "surely 0.0001<9999", true);
        choice(lets, "9.99<10", true);
        choice(lets, "10<9.99", false);
        choice(lets, "10==1", false);
    }

    private void whereInTheText() {
        due.promise("where: the byte of the first TOKEN of the STEP, in its text");
        SlideWorks x = new SlideWorks();
        x.rule();
        x.take(0);
        breaks(x, "let a=2;", 2, 0);
        breaks(x, " ".repeat(1992) + "let a=2;", 2, 1992);
        breaks(x, "if 1<2 repeat 3 if 2<1 else let a=2; end end end", 2, 28);
        breaks(x, "repeat 0 let a=2; end if 1<2 if a<2 end end", 6, 29);
        due.is("read of another", Texts.read(x, "  let b=2;"), 0);
        due.is("where of the one that broke", x.where(), 29);
        due.is("broke", x.broke(), 6);
        due.is("run", x.run(), -2);
        due.is("where", x.where(), 2);
        x.take(0);
        due.is("where stays", x.where(), 2);
    }

    private void breaksLeaveAll() {
        due.promise("run: -2, and nothing happens: it BREAKS");
        SlideWorks x = PromiseTest.full();
        x.hair(D, 300, 0);
        x.slide(C, 200, 0);
        x.hair(C, 150, 0);
        int[] state = {x.state(0), x.state(1), x.state(2), x.state(3), x.state(4)};
        String[] texts = {"let a=2*3;" + idle(199), "let a=2*3;repeat 0 let b=2; end let c=b;",
            "let a=2/3;let b=" + times("1", 100) + ";", "let a=2*3;let b=1" + "*2".repeat(120) + "*1".repeat(60) + ";"};
        int[] whys = {1, 6, 3, 4};
        for (int i = 0; i < texts.length; i++) {
            due.is("read", Texts.read(x, texts[i]), 0);
            x.steps(i == 2 ? 0 : 20, 9);
            due.is("run", x.run(), -2);
            due.is("broke", x.broke(), whys[i]);
            for (int what = 0; what < 5; what++) {
                due.is("state " + what, x.state(what), state[what]);
            }
            due.is("no value", x.value(0, 0), -1000);
            due.is("moves", x.moves(), 0);
        }
    }

    private void noValueToBeginWith() {
        due.promise("A RUN begins with no VALUE of a NAME, whatever the runs ahead told");
        String tells = "let a=2;";
        String breaks = "let a=2;repeat 0 let b=2; end let c=b;";
        String uses = "repeat 0 let a=2; end let b=a;";
        String leaves = "repeat 0 let a=2; end let b=3;";
        String[][] rows = {{tells}, {breaks}, {tells, breaks}, {breaks, tells}, {tells, tells}, {breaks, breaks},
            {tells, leaves}, {tells, tells, leaves}, {breaks, leaves}, {tells, leaves, breaks}};
        for (String[] each : rows) {
            SlideWorks x = PromiseTest.full();
            for (String text : each) {
                due.is("read", Texts.read(x, text), 0);
                due.is("run", x.run() >= 0, !text.equals(breaks));
            }
            breaks(x, uses, 6, 22);
            runs(x, leaves);
            due.is("a", x.value(0, 0), -1000);
            due.is("b", x.value(1, 0), 300);
        }
        // The same text again and again: only what is told in the latest run has a VALUE.
        SlideWorks x = PromiseTest.full();
        due.is("read", Texts.read(x, "let a=1;if surely a==a let b=2; end let c=3;"), 0);
        for (int turn = 0; turn < 6; turn++) {
            boolean sure = turn % 3 != 2;
            x.steps(0, sure ? 9 : 40);
            due.is("run", x.run(), 0);
            due.is("b in turn " + turn, x.value(1, 0), sure ? 200 : -1000);
            due.is("c in turn " + turn, x.value(2, 0), 300);
        }
    }

    private void valueEdges() {
        due.promise("value: -1000: it has none, no such ones");
        SlideWorks x = PromiseTest.full();
        due.is("no PROGRAM", x.value(0, 0), -1000);
        runs(x, "let a=20;if 2<1 let b=2; end");
        int[] six = {200, 1, 199, 1, 201, 1};
        for (int what = 0; what < 6; what++) {
            due.is("what " + what, x.value(0, what), six[what]);
            due.is("b, what " + what, x.value(1, what), -1000);
        }
        for (int bad : new int[] {-1, 6, 7, Integer.MIN_VALUE, Integer.MAX_VALUE}) {
            due.is("what " + bad, x.value(0, bad), -1000);
        }
        for (int bad : new int[] {-1, 2, 11, 12, 13, Integer.MIN_VALUE, Integer.MAX_VALUE}) {
            due.is("name " + bad, x.value(bad, 0), -1000);
        }
    }
}
