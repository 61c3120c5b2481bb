/** Boundaries of a program's text in part III; promises 2 to 5. */
final class EdgeTexts {
    private static final int MIN = Integer.MIN_VALUE;
    private static final int MAX = Integer.MAX_VALUE;
    private static final String[] TOKENS = {"let", "repeat", "end", "if", "surely", "else", "square", "cube", "root", "third",
        "over", "a", "2", ";", "=", "==", "<", "*", "/", ".", "?", "A", "12345", "1.23456", "abcdefghi", "\0", "\u00ff", "{"};

    private final Due due;

    EdgeTexts(Due due) {
        this.due = due;
    }

    void test() {
        tapeFull();
        tapeEmpty();
        bytesInOrder();
        emptyTexts();
        blanks();
        everyByte();
        whatMayFollow();
        nameLengths();
        wordsAreNoNames();
        numLengths();
        longestTokens();
        fourHundredTokens();
        twelveNames();
        sixBlocks();
        firstFault();
        namesTold();
        wrongNums();
        textsEnd();
        faultChangesNothing();
        faultsLeaveNoTrace();
        numbersOfNums();
    }

    private void is(String text, int fault, int place) {
        SlideWorks x = new SlideWorks();
        due.is("read '" + text + "'", Texts.read(x, text), fault);
        due.is("place of '" + text + "'", x.place(), place);
        due.is("bytes left behind '" + text + "'", x.count(4), 0);
    }

    private int blank(SlideWorks x) {
        return x.feed(0x20202020, 0x20202020, 0x20202020, 0x20202020, 0x20202020);
    }

    private void tapeFull() {
        due.promise("feed: NONE, and nothing comes, if it would have more than 2,000");
        SlideWorks x = new SlideWorks();
        for (int i = 20; i <= 1980; i += 20) {
            due.is("feed", blank(x), i);
        }
        x.back(19);
        due.is("1961", x.count(4), 1961);
        due.is("20 more are 1981", blank(x), 1981);
        due.is("20 more would be 2001", blank(x), -1);
        due.is("nothing came", x.count(4), 1981);
        x.back(1);
        due.is("20 more are 2000", blank(x), 2000);
        due.is("full", blank(x), -1);
        due.is("and full", x.feed(MAX, MIN, -1, 0, 1), -1);
        due.is("nothing came", x.count(4), 2000);
        due.is("it is all blank", x.read(), 0);
        due.is("empty", x.count(4), 0);
        due.is("room again", blank(x), 20);
    }

    private void tapeEmpty() {
        due.promise("back: NONE, and nothing goes, if it has not so many, or n is below 0");
        SlideWorks x = new SlideWorks();
        due.is("back 0 of none", x.back(0), 0);
        due.is("back 1 of none", x.back(1), -1);
        due.is("back -1 of none", x.back(-1), -1);
        blank(x);
        due.is("back 21 of 20", x.back(21), -1);
        due.is("back -1", x.back(-1), -1);
        due.is("back least", x.back(MIN), -1);
        due.is("back most", x.back(MAX), -1);
        due.is("20 still", x.count(4), 20);
        due.is("back 0", x.back(0), 20);
        due.is("back 1", x.back(1), 19);
        due.is("back 20 of 19", x.back(20), -1);
        due.is("back 19", x.back(19), 0);
        due.is("back 1 of none", x.back(1), -1);
    }

    private void bytesInOrder() {
        due.promise("feed: twenty bytes, the highest of a first, behind the tape");
        SlideWorks x = new SlideWorks();
        // let abc=2*3; let d=4 and, behind it, ;
        x.feed(0x6c657420, 0x6162633d, 0x322a333b, 0x6c657420, 0x643d3420);
        x.back(1);
        x.feed(0x3b202020, 0x20202020, 0x20202020, 0x20202020, 0x20202020);
        due.is("read", x.read(), 0);
        due.is("names", x.count(3), 2);
        // The highest bit of a byte counts as one of its own.
        for (int at = 0; at < 20; at++) {
            int[] five = {0x20202020, 0x20202020, 0x20202020, 0x20202020, 0x20202020};
            five[at / 4] = five[at / 4] ^ 0x80 << 24 - 8 * (at % 4);
            x.feed(five[0], five[1], five[2], five[3], five[4]);
            due.is("read of a byte 160 at " + at, x.read(), 1);
            due.is("place", x.place(), at);
        }
    }

    private void emptyTexts() {
        due.promise("text: {STEP}, perhaps none");
        is("", 0, -1);
        is(" ", 0, -1);
        is("\t\n\r ".repeat(500), 0, -1);
        is("repeat 2 end", 0, -1);
        is("if 1<2 end", 0, -1);
        is("if 1<2 else end", 0, -1);
        SlideWorks x = new SlideWorks();
        due.is("read of a new tape", x.read(), 0);
        due.is("place", x.place(), -1);
        due.is("names", x.count(3), 0);
    }

    private void blanks() {
        due.promise("with blanks (9, 10, 13, 32) between or not");
        is("let a=2*3;", 0, -1);
        is("\tlet\na\r=  square\t\t2\n*\r3 ;\n", 0, -1);
        is("repeat 2end", 0, -1);
        is("if surely 2<3end", 0, -1);
        is("if 2==3else end", 0, -1);
        is("if 2==3let a=4;end", 0, -1);
        is("let a=2;let b=a;let c=b;", 0, -1);
        is("leta=2;", 1, 0);
        is("let ab=2;let c=a;", 4, 15);
        is("let ab=2;let c=a b;", 1, 17);
        is("le t a=2;", 1, 0);
        is("let a=2 2;", 1, 8);
        is("if 2= =3 end", 1, 4);
        is("let a=1 .5;", 1, 8);
        is("let a=1. 5;", 1, 7);
    }

    /** Each of the 256 bytes where only a blank may come. */
    private void everyByte() {
        due.promise("all else is no TOKEN");
        SlideWorks x = new SlideWorks();
        for (int sign = 0; sign < 256; sign++) {
            if (sign == 128) {
                x = new SlideWorks();
            }
            boolean blank = sign == 9 || sign == 10 || sign == 13 || sign == 32;
            x.feed(0x20202020, 0x20202020, 0x20202020, 0x20202020, 0x20200000 | sign << 8 | 0x20);
            due.is("read of byte " + sign, x.read(), blank ? 0 : 1);
            // A letter is a NAME, a digit a NUM, with which no text begins: a fault at the same place.
            due.is("place of byte " + sign, x.place(), blank ? -1 : 18);
        }
    }

    private void whatMayFollow() {
        due.promise("SYNTAX: a TOKEN, or what is none, with which no text goes on");
        String powers = "square cube root third over 2 a";
        String steps = "let repeat if";
        String[][] rows = {
            {"", steps},
            {"let ", "a"},
            {"let a ", "="},
            {"let a = ", powers},
            {"let a = square ", "2 a"},
            {"let a = over ", "2 a"},
            {"let a = 2 ", "* / ;"},
            {"let a = root 2 ", "* / ;"},
            {"let a = a ", "* / ;"},
            {"let a = 2 * ", powers},
            {"let a = 2 / ", powers},
            {"let a = 2 / cube ", "2 a"},
            {"let a = 2 * 3 ", "* / ;"},
            {"let a = 2 ; ", steps},
            {"repeat ", "2"},
            {"repeat 2 ", steps + " end"},
            {"repeat 2 let a = 2 ; ", steps + " end"},
            {"repeat 2 end ", steps},
            {"if ", "surely 2 a"},
            {"if surely ", "2 a"},
            {"if 2 ", "< =="},
            {"if surely a ", "< =="},
            {"if 2 < ", "2 a"},
            {"if surely 2 == ", "2 a"},
            {"if 2 < 3 ", steps + " else end"},
            {"if 2 == 3 let a = 2 ; ", steps + " else end"},
            {"if 2 < 3 else ", steps + " end"},
            {"if 2 < 3 else let a = 2 ; ", steps + " end"},
            {"if 2 < 3 end ", steps},
            {"if 2 < 3 else end ", steps},
            {"if 2 < 3 repeat 2 ", steps + " end"},
            {"if 2 < 3 repeat 2 end ", steps + " else end"},
            {"if 2 < 3 else repeat 2 ", steps + " end"},
            {"if 2 < 3 else if 2 < 3 ", steps + " else end"},
            {"if 2 < 3 else if 2 < 3 end ", steps + " end"},
            {"if 2 < 3 if 2 < 3 else end ", steps + " else end"},
            {"repeat 2 if 2 < 3 ", steps + " else end"},
            {"repeat 2 if 2 < 3 end ", steps + " end"},
        };
        for (String[] each : rows) {
            for (String token : TOKENS) {
                follows(each[0], token, (" " + each[1] + " ").contains(" " + token + " "));
            }
        }
    }

    private void follows(String begin, String token, boolean may) {
        SlideWorks x = new SlideWorks();
        int fault = Texts.read(x, begin + token);
        if (!may) {
            due.is("read '" + begin + token + "'", fault, 1);
            due.is("place of '" + begin + token + "'", x.place(), begin.length());
        } else if (fault != 0 && fault != 4) {
            due.is("read '" + begin + token + "'", fault, 1);
            due.is("place of '" + begin + token + "'", x.place(), (begin + token).length());
        }
    }

    private void nameLengths() {
        due.promise("NAMES (letters a .. z, 8 at most)");
        for (int length = 1; length <= 12; length++) {
            String name = "qwertyuiopas".substring(0, length);
            is("let " + name + "=2;", length <= 8 ? 0 : 1, length <= 8 ? -1 : 4);
            is("let a=2;let b=" + name + ";", length <= 8 ? 4 : 1, 14);
            is("let " + "z".repeat(length) + "=2;", length <= 8 ? 0 : 1, length <= 8 ? -1 : 4);
        }
        is("let abcdefgh=2;let abcdefgi=3;let bbcdefgh=abcdefgh*abcdefgi;", 0, -1);
        is("let abcdefgh=2;let b=abcdefg;", 4, 21);
        is("let a`=2;", 1, 5);
        is("let a{=2;", 1, 5);
        is("let aZ=2;", 1, 5);
        is("let a0=2;", 1, 5);
    }

    private void wordsAreNoNames() {
        due.promise("NAMES: none of the words in quotes");
        String[] words = {"let", "repeat", "end", "if", "surely", "else", "square", "cube", "root", "third", "over"};
        for (String word : words) {
            is("let " + word + "=2;", 1, 4);
            is("let " + word.substring(0, word.length() - 1) + "=2;", 0, -1);
            is("let " + word + "s=2;", 0, -1);
            is("let a" + word + "=2;", 0, -1);
            is("if " + word + "x<2 end", 4, 3);
        }
    }

    private void numLengths() {
        due.promise("NUMS (1 to 4 digits, perhaps a . and 1 to 4 digits behind it)");
        for (int whole = 1; whole <= 6; whole++) {
            String digits = "123456".substring(0, whole);
            is("let a=" + digits + ";", whole <= 4 ? 0 : 1, whole <= 4 ? -1 : 6);
            for (int behind = 1; behind <= 6; behind++) {
                boolean fine = whole <= 4 && behind <= 4;
                is("let a=" + digits + "." + "654321".substring(0, behind) + ";", fine ? 0 : 1, fine ? -1 : 6);
            }
            is("let a=" + digits + ".;", 1, whole <= 4 ? 6 + whole : 6);
        }
        is("let a=.5;", 1, 6);
        is("let a=1.2.3;", 1, 9);
        is("let a=1..2;", 1, 7);
        is("repeat 99999 end", 1, 7);
        is("if 12345<2 end", 1, 3);
    }

    private void longestTokens() {
        due.promise("TOKENS, the longest that can be");
        is("if 2==3 end", 0, -1);
        is("if 2=3 end", 1, 4);
        is("if 2===3 end", 1, 6);
        is("let a==2;", 1, 5);
        is("let a=2==3;", 1, 7);
        is("letter", 1, 0);
        is("let leta=2;let b=leta;", 0, -1);
        is("repeat 2endif", 1, 8);
        is("let a=squarea;", 4, 6);
        is("let b=2;let a=square b;", 0, -1);
        is("let a=2let b=3;", 1, 7);
        is("let a=1e;", 1, 7);
        is("ends", 1, 0);
    }

    private void fourHundredTokens() {
        due.promise("ROOM: a 401st TOKEN");
        String eleven = "let a=2*3/4*5;";
        // Each has eleven tokens: 36 of them are 396.
        String most = eleven.repeat(36);
        is(most + "if 2", 1, 36 * 14 + 4);
        is(most + "repeat 2 end", 0, -1);
        is(most + "if 2<3", 1, 36 * 14 + 6);
        is(most + "if 2<3 end", 2, 36 * 14 + 7);
        is(most + "if 2<3 ?", 1, 36 * 14 + 7);
        is(most + "if 2<3 ;", 1, 36 * 14 + 7);
        is(most + "repeat 2 end repeat", 1, 36 * 14 + 19);
        is(most + "repeat 2 end repeat 2", 2, 36 * 14 + 20);
        is(most + "repeat 2 end let a=2;", 2, 36 * 14 + 17);
        is(most + "let a=2;", 2, 36 * 14 + 7);
        is(most + "let a=0;", 2, 36 * 14 + 7);
        is(most + "repeat 2 end" + " ".repeat(2000 - 36 * 14 - 12), 0, -1);
    }

    private static String lets(int count) {
        StringBuilder text = new StringBuilder();
        for (int i = 0; i < count; i++) {
            text.append("let n").append((char) ('a' + i)).append("=2;");
        }
        return text.toString();
    }

    private void twelveNames() {
        due.promise("12 NAMES at most; ROOM: a 13th NAME");
        is(lets(12), 0, -1);
        is(lets(13), 2, 12 * 9 + 4);
        is(lets(12) + "let na=nl;let nl=na;", 0, -1);
        is(lets(11) + "let b=na*c;", 2, 11 * 9 + 9);
        is(lets(12) + "if c<2 end", 2, 12 * 9 + 3);
        is(lets(12) + "if 2<c end", 2, 12 * 9 + 5);
        is(lets(12) + "c", 1, 12 * 9);
        is(lets(12) + "let c 2", 2, 12 * 9 + 4);
        is(lets(12) + "let na c", 1, 12 * 9 + 7);
        SlideWorks x = new SlideWorks();
        due.is("twelve", Texts.read(x, lets(12)), 0);
        due.is("names", x.count(3), 12);
        due.is("thirteen", Texts.read(x, lets(13)), 2);
        due.is("names of the one ahead", x.count(3), 12);
        due.is("one", Texts.read(x, lets(1)), 0);
        due.is("names", x.count(3), 1);
    }

    private void sixBlocks() {
        due.promise("ROOM: a 7th repeat, if within one another (at it)");
        for (int kinds = 0; kinds < 64; kinds++) {
            StringBuilder six = new StringBuilder();
            for (int i = 0; i < 6; i++) {
                boolean repeat = (kinds >> i & 1) == 0;
                six.append(repeat ? "repeat 1 " : i % 2 == 0 ? "if 1<2 " : "if 1<2 else ");
            }
            String ends = "end ".repeat(6);
            is(six + ends, 0, -1);
            is(six + "repeat 1 end " + ends, 2, six.length());
            is(six + "if 1<2 end " + ends, 2, six.length());
            is(six + "end repeat 1 end if 1<2 end " + ends.substring(4), 0, -1);
            is(six + "let a=2; if", 2, six.length() + 9);
        }
        is("repeat 1 end ".repeat(30), 0, -1);
        is("if 1<2 end ".repeat(30), 0, -1);
        is("repeat 1 ".repeat(6) + "end ".repeat(6) + "repeat 1 ".repeat(6) + "end ".repeat(6), 0, -1);
    }

    private void firstFault() {
        due.promise("FAULTS, the first by its place, of one place the least; if there is none, likewise");
        // Of one place: a 401st token, a 13th name, a 7th block that no text goes on with either.
        is("let a=2*3/4*5;".repeat(36) + "if 1<2 <", 1, 36 * 14 + 7);
        is(lets(12) + "repeat c", 1, 12 * 9 + 7);
        is("repeat 1 ".repeat(6) + "let if", 1, 58);
        // Room is ahead of what is behind it, and any 1 or 2 is ahead of any 4 or 5.
        is(lets(13) + "?", 2, 12 * 9 + 4);
        is("?" + lets(13), 1, 0);
        is("let a=b;" + lets(12), 2, 8 + 10 * 9 + 4);
        is("let a=0;let b=c;?", 1, 16);
        is("let a=0;let b=c;", 5, 6);
        is("let a=c;let b=0;", 4, 6);
        is("let a=c*0;", 4, 6);
        is("let a=0*c;", 5, 6);
        is("repeat 100 let a=a;end", 5, 7);
        is("if a<0 repeat 100 end end", 4, 3);
    }

    private void namesTold() {
        due.promise("NAME: a NAME in an ATOM that no let that ends ahead of it in the text tells");
        is("let a=a;", 4, 6);
        is("let a=2*a;", 4, 8);
        is("let a=2/over a;", 4, 13);
        is("let a=2;let a=a;", 0, -1);
        is("let a=2;let b=a*b;", 4, 16);
        is("let a=2;let b=c;let c=2;", 4, 14);
        is("repeat 9 if 1<2 let a=2; else let b=a; end end", 0, -1);
        is("repeat 9 let b=a; let a=2; end", 4, 15);
        is("repeat 0 let a=2; end if a==a end", 0, -1);
        is("if 2<a let a=2; end", 4, 5);
        is("if surely a==2 let a=2; end", 4, 10);
        is("let a=2;let b=square a;let c=b/a;if surely c<b let d=c;else let d=b;end let e=d;", 0, -1);
    }

    private void wrongNums() {
        due.promise("WRONG: a NUM that has no digit but 0 (not behind repeat); behind repeat above 99, or with a .");
        for (String zero : new String[] {"0", "00", "0000", "0.0", "0000.0000", "0.0000", "0000.0"}) {
            is("let a=" + zero + ";", 5, 6);
            is("let a=2*root " + zero + ";", 5, 13);
            is("if " + zero + "<2 end", 5, 3);
            is("if surely 2==" + zero + " end", 5, 13);
        }
        for (String some : new String[] {"1", "0001", "0.0001", "1.0000", "9999.9999", "0000.0001", "0100"}) {
            is("let a=" + some + ";", 0, -1);
            is("if " + some + "<2 end", 0, -1);
        }
        for (String turns : new String[] {"0", "00", "0000", "1", "99", "099", "0099"}) {
            is("repeat " + turns + " end", 0, -1);
        }
        for (String turns : new String[] {"100", "0100", "999", "9999", "0.0", "1.0", "99.0", "0.0001", "100.5"}) {
            is("repeat " + turns + " end", 5, 7);
        }
    }

    private void textsEnd() {
        due.promise("by its place (a byte; the text's end: its length)");
        is("let", 1, 3);
        is("let ", 1, 4);
        is("let a=2", 1, 7);
        is("let a=2  \n", 1, 10);
        is("repeat 2 end if", 1, 15);
        is(" ".repeat(1992) + "let a=2;", 0, -1);
        is(" ".repeat(1993) + "let a=2", 1, 2000);
        is("let a=2" + " ".repeat(1993), 1, 2000);
        is(" ".repeat(1999) + ";", 1, 1999);
        is(" ".repeat(1999) + "a", 1, 1999);
        is("let a=12", 1, 8);
        is("let a=1.", 1, 7);
        is("if 1=", 1, 4);
        is("if 1==", 1, 6);
    }

    private void faultChangesNothing() {
        due.promise("A text with a FAULT changes nothing; else no NAME has a VALUE");
        String[] faulty = {"let a=2", lets(13), "let a=b;", "let a=0;", "?"};
        int[] faults = {1, 2, 4, 5, 1};
        int[] places = {7, 12 * 9 + 4, 6, 6, 0};
        SlideWorks x = PromiseTest.full();
        due.is("read", Texts.read(x, "let p=3; let q=p*2;"), 0);
        due.is("run", x.run(), 1);
        for (int i = 0; i < faulty.length; i++) {
            due.is("read", Texts.read(x, faulty[i]), faults[i]);
            due.is("place", x.place(), places[i]);
            due.is("the tape is empty", x.count(4), 0);
            due.is("names", x.count(3), 2);
            due.is("value of p", x.value(0, 0), 300);
            due.is("value of q", x.value(1, 0), 600);
            due.is("moves", x.moves(), 3);
        }
        due.is("run of the one ahead", x.run(), 1);
        due.is("value of q", x.value(1, 0), 600);
        due.is("read", Texts.read(x, "let p=3; let q=p*2;"), 0);
        due.is("place without a fault", x.place(), -1);
        due.is("no value of p", x.value(0, 0), -1000);
        due.is("no value of q", x.value(1, 0), -1000);
        due.is("moves of the latest run", x.moves(), 3);
    }

    private void faultsLeaveNoTrace() {
        due.promise("read: each text is read for itself, whatever the texts with a FAULT ahead of it were");
        String[] broken = {"repeat 2", "if 1<2 repeat 3 let a=1;", "if 1<2 else", "let", "let a=square", "repeat",
            "if surely", "if 1<", "let a=2 end", "repeat 1 repeat 1 repeat 1 repeat 1 repeat 1 repeat 1 repeat 1",
            "let a=1;let b=1;let c=1;let d=1;let e=1;let f=1;let g=1;let h=1;let i=1;let j=1;let k=1;let l=1;let m=1;"};
        for (String each : broken) {
            SlideWorks x = new SlideWorks();
            for (int i = 0; i < 2; i++) {
                due.is("a fault in '" + each + "'", Texts.read(x, each) > 0, true);
                due.is("an end alone behind '" + each + "'", Texts.read(x, "end"), 1);
                due.is("its place", x.place(), 0);
                due.is("an else alone behind '" + each + "'", Texts.read(x, " else"), 1);
                due.is("its place", x.place(), 1);
                due.is("a fault in '" + each + "'", Texts.read(x, each) > 0, true);
                due.is("a sound text behind '" + each + "'", Texts.read(x, "repeat 1 let z=1; end"), 0);
                due.is("no place", x.place(), -1);
                due.is("its names", x.count(3), 1);
            }
        }
    }

    private void numbersOfNums() {
        due.promise("A NUM is the NUMBER of its first three digits from the first one that is not 0 on (0 where fewer)");
        String[] texts = {"1", "10", "100", "1000", "9999", "1.0", "0.1", "0.01", "0.001", "0.0001", "1239", "0123", "0012.39",
            "0.0123", "0.1239", "1.0239", "1000.9", "0009", "0000.9", "9.999", "1.2", "99.99", "10.05", "0010.0", "0100.5"};
        int[][] numbers = {{100, 0}, {100, 1}, {100, 2}, {100, 3}, {999, 3}, {100, 0}, {100, -1}, {100, -2}, {100, -3},
            {100, -4}, {123, 3}, {123, 2}, {123, 1}, {123, -2}, {123, -1}, {102, 0}, {100, 3}, {900, 0}, {900, -1}, {999, 0},
            {120, 0}, {999, 1}, {100, 1}, {100, 1}, {100, 2}};
        for (int i = 0; i < texts.length; i++) {
            SlideWorks x = PromiseTest.full();
            due.is("read", Texts.read(x, "let a=" + texts[i] + ";"), 0);
            due.is("run", x.run(), 0);
            due.is("digits of " + texts[i], x.value(0, 0), numbers[i][0]);
            due.is("place of " + texts[i], x.value(0, 1), numbers[i][1]);
        }
    }
}
