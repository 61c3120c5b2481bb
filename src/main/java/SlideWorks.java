/** A works of slide rules; the promises that this class keeps stand in ../shared/DOC.md. */
public final class SlideWorks {
    public static final int NONE = -1;

    private static final int LACKING = -2;
    private static final int NO_NUMBER = -1000;
    private static final int NO_STAND = -5000;
    private static final int MOST_RULES = 4;

    private final Law law;
    private final Rule[] rules;
    private int ruleCount;
    private final Hand hand;
    private final Tape tape;
    private Program program;
    private Program draft;
    private int faultPlace;
    private final Runner runner;
    private final Product product;
    private final Chart lines;
    private final Book book;

    public SlideWorks() {
        law = new Law();
        rules = new Rule[MOST_RULES];
        hand = new Hand(2, 10);
        tape = new Tape();
        program = new Program();
        draft = new Program();
        faultPlace = NONE;
        runner = new Runner(hand, law);
        product = new Product(law);
        lines = new Chart();
        book = new Book();
    }

    public int feed(int a, int b, int c, int d, int e) {
        if (!tape.hasRoomFor(20)) {
            return NONE;
        }
        tape.append(a);
        tape.append(b);
        tape.append(c);
        tape.append(d);
        tape.append(e);
        return tape.size;
    }

    public int back(int n) {
        if (n < 0 || n > tape.size) {
            return NONE;
        }
        tape.size -= n;
        return tape.size;
    }

    public int read() {
        draft.readFrom(tape);
        tape.size = 0;
        faultPlace = draft.faultPlace;
        if (draft.fault != Program.SOUND) {
            return draft.fault;
        }
        Program former = program;
        program = draft;
        draft = former;
        runner.forgetValues();
        return Program.SOUND;
    }

    public int place() {
        return faultPlace;
    }

    public int units(int m) {
        return law.unitsOf(m);
    }

    public int rule() {
        if (ruleCount >= MOST_RULES) {
            return NONE;
        }
        rules[ruleCount] = new Rule();
        ruleCount++;
        return ruleCount - 1;
    }

    public int scale(int rule, boolean body, int fold, boolean turned) {
        Rule owner = ruleAt(rule);
        if (owner == null || fold < 1 || fold > 3) {
            return NONE;
        }
        return owner.addScale(law, body, fold, turned);
    }

    public boolean flaw(int rule, int scale, int stretch, int d) {
        Scale chosen = scaleAt(rule, scale);
        return chosen != null && chosen.setFlaw(stretch, d);
    }

    public boolean steps(int hand, int eye) {
        if (hand < 0 || hand > 20 || eye < 9 || eye > 40) {
            return false;
        }
        this.hand.handStep = hand;
        this.hand.eyeStep = eye;
        return true;
    }

    public int cut(int rule, int scale, int f, int m) {
        Scale chosen = scaleAt(rule, scale);
        if (chosen == null || !chosen.hasMark(f, m)) {
            return NO_NUMBER;
        }
        return chosen.cutPlace(Scale.markFor(f, m));
    }

    public int seen(int rule, int scale, int x, int q, int what) {
        Scale chosen = scaleAt(rule, scale);
        if (chosen == null || x < 0 || x > Law.LENGTH || q < 0 || q > 999 || what < 0 || what > 2) {
            return NONE;
        }
        chosen.lookAt(x, q);
        return chosen.sighted(what);
    }

    public boolean take(int rule) {
        Rule chosen = ruleAt(rule);
        if (chosen == null) {
            return false;
        }
        hand.pickUp(chosen, rule);
        return true;
    }

    public int hair(int scale, int m, int e) {
        Scale chosen = hand.scaleInHand(scale);
        if (chosen == null || !isNumber(m, e) || !hand.bringHair(chosen, chosen.markOfNumber(m, e), 0)) {
            return NONE;
        }
        return hand.h;
    }

    public int slide(int scale, int m, int e) {
        Scale chosen = hand.scaleInHand(scale);
        if (chosen == null || chosen.onBody || !isNumber(m, e)) {
            return NO_STAND;
        }
        return hand.bringSlide(chosen.cutPlace(chosen.markOfNumber(m, e)), 0) ? hand.s : NO_STAND;
    }

    public int index(boolean right) {
        if (hand.rule == null) {
            return NO_STAND;
        }
        return hand.bringSlide(right ? Law.LENGTH : 0, 0) ? hand.s : NO_STAND;
    }

    public int look(int scale, int what) {
        Scale chosen = hand.scaleInHand(scale);
        if (chosen == null || what < 0 || what > 2 || !hand.shows(chosen)) {
            return NONE;
        }
        return chosen.sighted(what);
    }

    public int state(int what) {
        if (hand.rule == null) {
            return NO_STAND;
        }
        switch (what) {
            case 0:
                return hand.ruleNumber;
            case 1:
                return hand.s;
            case 2:
                return hand.h;
            case 3:
                return hand.u;
            case 4:
                return hand.v;
            default:
                return NO_STAND;
        }
    }

    public int run() {
        if (hand.rule == null) {
            return NONE;
        }
        return runner.perform(program) ? hand.slideMoves : LACKING;
    }

    public int broke() {
        return runner.brokeWhy;
    }

    public int where() {
        return runner.brokeWhere;
    }

    public int moves() {
        return runner.hairMoves;
    }

    public int value(int name, int what) {
        if (name < 0 || name >= program.nameCount) {
            return NO_NUMBER;
        }
        return runner.keptPart(name, what);
    }

    public int factor(int m, int e, boolean over) {
        return isNumber(m, e) ? product.addFactor(m, e, over) : NONE;
    }

    public int clear() {
        return product.removeAll();
    }

    public int fewest(int what) {
        if (product.factorCount == 0) {
            return NO_NUMBER;
        }
        product.settle();
        switch (what) {
            case 0:
                return product.bestSlides;
            case 1:
                return product.bestHairs;
            case 2:
                return product.bestPlace;
            default:
                return NO_NUMBER;
        }
    }

    public int order(int i) {
        return product.factorInOrder(i);
    }

    public int step(int rule, int scale, int gap, int f, int j) {
        Scale chosen = scaleAt(rule, scale);
        if (chosen == null || !isGap(gap) || f < 0 || f >= chosen.fold || j < 1 || j > 9) {
            return NONE;
        }
        return chosen.partStep(f, j, gap);
    }

    public int marks(int rule, int scale, int gap) {
        Scale chosen = scaleAt(rule, scale);
        if (chosen == null || !isGap(gap)) {
            return NONE;
        }
        return chosen.dividedMarks(gap);
    }

    public boolean chart(int a, int b, int t, int c) {
        return lines.draw(a, b, t, c);
    }

    public int thread(int m, int e, int n, int f, int what) {
        if (!isNumber(m, e) || !isNumber(n, f) || what < 0 || what > 1) {
            return NO_NUMBER;
        }
        int target = lines.middleReach(law.reachOf(m, e), law.reachOf(n, f));
        int mark = law.nearestMark(Math.floorMod(target, Law.LENGTH));
        if (what == 0) {
            return Scale.digitsOf(mark);
        }
        return Math.floorDiv(target, Law.LENGTH) + Scale.decadeOf(mark);
    }

    public int design(int i, int k) {
        if (i < 1 || i > 3 || k < 1 || k > 3) {
            return NONE;
        }
        return Chart.firstFor(i, k);
    }

    public int shown(int rule, int one, int f, int m, int other, int g, int n) {
        Scale first = scaleAt(rule, one);
        Scale second = scaleAt(rule, other);
        if (first == null || second == null || one == other || !first.hasMark(f, m) || !second.hasMark(g, n)) {
            return NONE;
        }
        int firstPlace = first.truePlace(Scale.markFor(f, m));
        int secondPlace = second.truePlace(Scale.markFor(g, n));
        return book.addShown(rule, firstPlace - secondPlace,
                Book.slot(one, firstPlace), Book.slot(other, secondPlace));
    }

    public int strike(int fact) {
        return book.addStrike(fact);
    }

    public int guesses(int rule, int n) {
        return weighed(rule, n) ? book.fitting() : NONE;
    }

    public int guess(int rule, int n, int i, int what) {
        if (i < 0 || what < 0 || what > 2 || !weighed(rule, n)) {
            return NO_NUMBER;
        }
        return book.guessPart(book.fittingAt(i), what);
    }

    public int sure(int rule, int n) {
        return weighed(rule, n) ? book.blamedScale() : NONE;
    }

    public int odd(int rule, int n) {
        return weighed(rule, n) ? book.oddOne() : NONE;
    }

    public int count(int what) {
        switch (what) {
            case 0:
                return ruleCount;
            case 1:
                return product.factorCount;
            case 2:
                return book.factCount;
            case 3:
                return program.nameCount;
            case 4:
                return tape.size;
            case 5:
                return hand.handStep;
            case 6:
                return hand.eyeStep;
            default:
                return NONE;
        }
    }

    private static boolean isNumber(int digits, int place) {
        return digits >= 100 && digits <= 999 && place >= -99 && place <= 99;
    }

    private static boolean isGap(int gap) {
        return gap >= 1 && gap <= 300;
    }

    private Rule ruleAt(int number) {
        return number >= 0 && number < ruleCount ? rules[number] : null;
    }

    private Scale scaleAt(int rule, int number) {
        Rule owner = ruleAt(rule);
        return owner == null ? null : owner.scaleAt(number);
    }

    private boolean weighed(int rule, int n) {
        Rule chosen = ruleAt(rule);
        if (chosen == null || n < 0 || n > book.factCount) {
            return false;
        }
        book.weigh(rule, n, chosen.scaleCount, hand.handStep + hand.eyeStep);
        return true;
    }

    /** The places of the marks by the law in whole numbers, worked out once. */
    private static final class Law {
        static final int LENGTH = 4096;
        static final int PER_DECADE = 900;

        private final int[] once;
        private final int[] twice;
        private final int[] thrice;

        Law() {
            once = new int[PER_DECADE + 1];
            for (int mark = 0; mark < PER_DECADE; mark++) {
                once[mark] = logarithm(mark + 100);
            }
            once[PER_DECADE] = LENGTH;
            twice = folded(once, 2);
            thrice = folded(once, 3);
        }

        private static int logarithm(int digits) {
            long x = digits * 1000000L;
            int bits = 0;
            for (int i = 0; i < 12; i++) {
                x = x * x / 100000000L;
                bits = bits * 2;
                if (x >= 1000000000L) {
                    x = x / 10;
                    bits++;
                }
            }
            return bits;
        }

        private static int[] folded(int[] single, int fold) {
            int decades = Math.max(1, fold);
            int[] places = new int[decades * PER_DECADE + 1];
            for (int mark = 0; mark < places.length; mark++) {
                places[mark] = (single[mark % PER_DECADE] + LENGTH * (mark / PER_DECADE)) / decades;
            }
            return places;
        }

        int[] placesFor(int fold) {
            if (fold == 1) {
                return once;
            }
            return fold == 2 ? twice : thrice;
        }

        int unitsOf(int digits) {
            return digits >= 100 && digits <= 999 ? once[digits - 100] : NONE;
        }

        int reachOf(int digits, int place) {
            return unitsOf(digits) + LENGTH * place;
        }

        int nearestMark(int reach) {
            int best = 0;
            for (int mark = 1; mark < once.length; mark++) {
                if (Math.abs(once[mark] - reach) < Math.abs(once[best] - reach)) {
                    best = mark;
                }
            }
            return best;
        }
    }

    /** A scale; its marks are numbered by decade, then by digits, 900 to a decade. */
    private static final class Scale {
        static final int MOST_FLAW = 20;
        static final int STRETCHES = 16;
        // Marks are at most 18 apart where true, so with flaws one is always within 9 + 20 of any place.
        private static final int SURELY_WITHIN = 29;
        private static final int FARTHER_THAN_ALL = 1000000;
        private static final int[] STEPS = {1, 2, 5, 10, 20, 50, 100};

        final boolean onBody;
        final int fold;
        final boolean turned;
        private final int[] places;
        // By place / 256; 4096 has a row of its own, kept like that of the last stretch.
        private final int[] flaws;
        private int seenMark;
        private int lowMark;
        private int highMark;

        Scale(Law law, boolean onBody, int fold, boolean turned) {
            this.onBody = onBody;
            this.fold = fold;
            this.turned = turned;
            places = law.placesFor(fold);
            flaws = new int[STRETCHES + 1];
        }

        static int markFor(int decade, int digits) {
            return decade * Law.PER_DECADE + digits - 100;
        }

        static int decadeOf(int mark) {
            return mark / Law.PER_DECADE;
        }

        static int digitsOf(int mark) {
            return mark % Law.PER_DECADE + 100;
        }

        static int stretchOf(int place) {
            return Math.min(place >> 8, STRETCHES - 1);
        }

        boolean hasMark(int decade, int digits) {
            if (decade == fold) {
                return digits == 100;
            }
            return decade >= 0 && decade < fold && digits >= 100 && digits <= 999;
        }

        int markOfNumber(int digits, int place) {
            return markFor(Math.floorMod(place, Math.max(1, fold)), digits);
        }

        boolean setFlaw(int stretch, int size) {
            if (stretch < 0 || stretch >= STRETCHES || size < -MOST_FLAW || size > MOST_FLAW) {
                return false;
            }
            flaws[stretch] = size;
            if (stretch == STRETCHES - 1) {
                flaws[STRETCHES] = size;
            }
            return true;
        }

        int truePlace(int mark) {
            if (mark < 0 || mark >= places.length) {
                return 0;
            }
            return turned ? Law.LENGTH - places[mark] : places[mark];
        }

        int cutPlace(int mark) {
            if (mark < 0 || mark >= places.length) {
                return 0;
            }
            int place = turned ? Law.LENGTH - places[mark] : places[mark];
            int stretch = place >> 8;
            return stretch >= 0 && stretch < flaws.length ? place + flaws[stretch] : place;
        }

        /** Notes which mark is nearest to x, and the lowest and highest within q. */
        void lookAt(int x, int q) {
            int reach = Math.max(q, SURELY_WITHIN) + MOST_FLAW;
            int centre = turned ? Law.LENGTH - x : x;
            int least = FARTHER_THAN_ALL;
            seenMark = 0;
            lowMark = NONE;
            highMark = NONE;
            for (int mark = firstFrom(centre - reach); mark < places.length && places[mark] <= centre + reach; mark++) {
                int gap = Math.abs(cutPlace(mark) - x);
                if (gap < least) {
                    least = gap;
                    seenMark = mark;
                }
                if (gap <= q) {
                    lowMark = lowMark == NONE ? mark : lowMark;
                    highMark = mark;
                }
            }
            if (lowMark == NONE) {
                lowMark = seenMark;
                highMark = seenMark;
            }
        }

        private int firstFrom(int bound) {
            int low = 0;
            int high = places.length;
            for (int halvings = 0; halvings < 32 && low < high; halvings++) {
                int middle = (low + high) / 2;
                if (places[middle] < bound) {
                    low = middle + 1;
                } else {
                    high = middle;
                }
            }
            return low;
        }

        int sightedMark(int what) {
            if (what == 0) {
                return seenMark;
            }
            return what == 1 ? lowMark : highMark;
        }

        int sighted(int what) {
            int mark = sightedMark(what);
            return 1000 * decadeOf(mark) + digitsOf(mark);
        }

        int partStep(int decade, int part, int gap) {
            int from = markFor(decade, 100 * part);
            for (int i = 0; i < STEPS.length; i++) {
                if (isWideEnough(from, STEPS[i], gap)) {
                    return STEPS[i];
                }
            }
            return 100;
        }

        private boolean isWideEnough(int from, int stride, int gap) {
            int onward = Math.max(1, stride);
            for (int mark = from; mark < from + 100; mark += onward) {
                if (Math.abs(truePlace(mark + onward) - truePlace(mark)) < gap) {
                    return false;
                }
            }
            return true;
        }

        int dividedMarks(int gap) {
            int sum = 1;
            for (int decade = 0; decade < fold; decade++) {
                for (int part = 1; part <= 9; part++) {
                    sum += 100 / Math.max(1, partStep(decade, part, gap));
                }
            }
            return sum;
        }
    }

    /** A rule: its scales. */
    private static final class Rule {
        static final int MOST_SCALES = 8;

        private final Scale[] scales;
        int scaleCount;

        Rule() {
            scales = new Scale[MOST_SCALES];
        }

        int addScale(Law law, boolean body, int fold, boolean turned) {
            if (scaleCount >= MOST_SCALES) {
                return NONE;
            }
            scales[scaleCount] = new Scale(law, body, fold, turned);
            scaleCount++;
            return scaleCount - 1;
        }

        Scale scaleAt(int number) {
            return number >= 0 && number < scaleCount ? scales[number] : null;
        }

        Scale firstLike(boolean body, int fold, boolean turned) {
            for (int i = 0; i < scaleCount && i < scales.length; i++) {
                Scale each = scales[i];
                if (each != null && each.onBody == body && each.fold == fold && each.turned == turned) {
                    return each;
                }
            }
            return null;
        }
    }

    /** A rule in hand: its slide s and hair h with their doubts u and v, and what a calculation with it has come to. */
    private static final class Hand {
        static final int DONE = 0;
        static final int NO_SCALE = 2;
        static final int TOO_DOUBTFUL = 4;
        static final int FALLS_OFF = 5;
        private static final int MOST_DOUBT = 999;

        int handStep;
        int eyeStep;
        Rule rule;
        int ruleNumber;
        int s;
        int h;
        int u;
        int v;
        int slideMoves;
        int hairMoves;
        int placeSoFar;

        Hand(int handStep, int eyeStep) {
            this.handStep = handStep;
            this.eyeStep = eyeStep;
            ruleNumber = NONE;
        }

        void pickUp(Rule chosen, int number) {
            rule = chosen;
            ruleNumber = number;
            setAll(0, 0, 0, 0);
        }

        void setAll(int slide, int hair, int slideDoubt, int hairDoubt) {
            s = slide;
            h = hair;
            u = slideDoubt;
            v = hairDoubt;
        }

        void startCounting() {
            slideMoves = 0;
            hairMoves = 0;
            placeSoFar = 0;
        }

        Scale scaleInHand(int number) {
            return rule == null ? null : rule.scaleAt(number);
        }

        boolean bringHair(Scale scale, int mark, int loose) {
            int stand = scale.cutPlace(mark) + (scale.onBody ? 0 : s);
            return putHair(stand, (scale.onBody ? 0 : u) + loose);
        }

        private boolean putHair(int stand, int moreDoubt) {
            if (stand < 0 || stand > Law.LENGTH) {
                return false;
            }
            h = stand;
            v = handStep + moreDoubt;
            hairMoves++;
            return true;
        }

        /** Moves the slide so that what is at a place of it stands at the hair. */
        boolean bringSlide(int placeOfSlide, int loose) {
            return putSlide(h - placeOfSlide, v + handStep + loose);
        }

        private boolean putSlide(int stand, int doubt) {
            if (stand < -Law.LENGTH || stand > Law.LENGTH) {
                return false;
            }
            s = stand;
            u = doubt;
            slideMoves++;
            return true;
        }

        boolean shows(Scale scale) {
            int x = scale.onBody ? h : h - s;
            if (x < 0 || x > Law.LENGTH) {
                return false;
            }
            scale.lookAt(x, eyeStep + v + (scale.onBody ? 0 : u));
            return true;
        }

        /** What comes of a setting in a run: doubts that are too great break it, as does what fell off. */
        int judge(boolean wasSet) {
            if (!wasSet) {
                return FALLS_OFF;
            }
            return u > MOST_DOUBT || v > MOST_DOUBT ? TOO_DOUBTFUL : DONE;
        }

        int startWith(Scale d, int digits, int place, int loose) {
            if (d == null) {
                return NO_SCALE;
            }
            placeSoFar = place;
            return judge(bringHair(d, Scale.markFor(0, digits), loose));
        }

        int multiply(Scale c, int digits, int place, int loose, boolean behindOver) {
            int why = DONE;
            if (!behindOver) {
                why = judge(bringSlide(0, 0));
            } else if (s < 0) {
                placeSoFar++;
            }
            if (why != DONE) {
                return why;
            }
            if (c == null) {
                return NO_SCALE;
            }
            int mark = Scale.markFor(0, digits);
            int stand = c.cutPlace(mark) + s;
            if (stand > Law.LENGTH) {
                placeSoFar++;
                why = judge(putSlide(s - Law.LENGTH, u + handStep));
            } else if (stand < 0) {
                placeSoFar--;
                why = judge(putSlide(s + Law.LENGTH, u + handStep));
            }
            if (why != DONE) {
                return why;
            }
            placeSoFar += place;
            return judge(bringHair(c, mark, loose));
        }

        int divide(Scale c, int digits, int place, int loose) {
            if (c == null) {
                return NO_SCALE;
            }
            int why = judge(bringSlide(c.cutPlace(Scale.markFor(0, digits)), loose));
            if (why != DONE) {
                return why;
            }
            placeSoFar -= place;
            if (s < 0) {
                placeSoFar--;
                return judge(putHair(s + Law.LENGTH, u));
            }
            return judge(putHair(s, u));
        }
    }

    /** The tape, and the tokens cut off it one behind the other. */
    private static final class Tape {
        static final int NO_TOKEN = 0;
        static final int TEXT_END = 1;
        static final int NAME = 2;
        static final int NUM = 3;
        static final int LET = 4;
        static final int REPEAT = 5;
        static final int END = 6;
        static final int IF = 7;
        static final int SURELY = 8;
        static final int ELSE = 9;
        static final int SQUARE = 10;
        static final int CUBE = 11;
        static final int ROOT = 12;
        static final int THIRD = 13;
        static final int OVER = 14;
        static final int SEMICOLON = 15;
        static final int IS = 16;
        static final int SAME = 17;
        static final int LESS = 18;
        static final int TIMES = 19;
        static final int BY = 20;

        static final int MOST_BYTES = 2000;
        private static final int LONGEST_NAME = 8;
        private static final int MOST_DIGITS = 4;

        private final int[] bytes;
        int size;
        private final long[] words;
        private int at;
        int start;
        long nameCode;
        int digits;
        int place;
        int whole;
        boolean pointed;

        Tape() {
            bytes = new int[MOST_BYTES];
            words = new long[OVER + 1];
            words[LET] = codeOf("let");
            words[REPEAT] = codeOf("repeat");
            words[END] = codeOf("end");
            words[IF] = codeOf("if");
            words[SURELY] = codeOf("surely");
            words[ELSE] = codeOf("else");
            words[SQUARE] = codeOf("square");
            words[CUBE] = codeOf("cube");
            words[ROOT] = codeOf("root");
            words[THIRD] = codeOf("third");
            words[OVER] = codeOf("over");
        }

        // Eight letters fit into a long, so that names are compared without making texts.
        private static long codeOf(String word) {
            long code = 0;
            for (int i = 0; i < word.length(); i++) {
                code = withLetter(code, word.charAt(i));
            }
            return code;
        }

        private static long withLetter(long code, int letter) {
            return code * 27 + (letter - 'a' + 1);
        }

        boolean hasRoomFor(int more) {
            return size + more <= MOST_BYTES;
        }

        void append(int four) {
            for (int shift = 24; shift >= 0; shift -= 8) {
                if (size >= 0 && size < bytes.length) {
                    bytes[size] = (four >> shift) & 255;
                    size++;
                }
            }
        }

        void rewind() {
            at = 0;
        }

        private int byteAt(int i) {
            return i >= 0 && i < size && i < bytes.length ? bytes[i] : NONE;
        }

        private static boolean isBlank(int sign) {
            return sign == 9 || sign == 10 || sign == 13 || sign == 32;
        }

        private static boolean isLetter(int sign) {
            return sign >= 'a' && sign <= 'z';
        }

        private static boolean isDigit(int sign) {
            return sign >= '0' && sign <= '9';
        }

        /** Cuts the next token: its kind, with start and the fields of that kind. */
        int nextKind() {
            for (int i = 0; i < MOST_BYTES && isBlank(byteAt(at)); i++) {
                at++;
            }
            start = at;
            int sign = byteAt(at);
            if (sign == NONE) {
                return TEXT_END;
            }
            if (isLetter(sign)) {
                return wordKind();
            }
            return isDigit(sign) ? numberKind() : signKind(sign);
        }

        private int wordKind() {
            nameCode = 0;
            for (int i = 0; i < MOST_BYTES && isLetter(byteAt(at)); i++) {
                nameCode = withLetter(nameCode, byteAt(at));
                at++;
            }
            if (at - start > LONGEST_NAME) {
                return NO_TOKEN;
            }
            for (int kind = LET; kind <= OVER; kind++) {
                if (words[kind] == nameCode) {
                    return kind;
                }
            }
            return NAME;
        }

        private int digitsEnd(int from) {
            int end = from;
            for (int i = 0; i < MOST_BYTES && isDigit(byteAt(end)); i++) {
                end++;
            }
            return end;
        }

        private int numberKind() {
            int point = digitsEnd(start);
            int end = point;
            pointed = byteAt(point) == '.' && isDigit(byteAt(point + 1));
            if (pointed) {
                end = digitsEnd(point + 1);
            }
            at = end;
            if (point - start > MOST_DIGITS || end - point - 1 > MOST_DIGITS) {
                return NO_TOKEN;
            }
            readWhole(point);
            readDigits(point, end);
            return NUM;
        }

        private void readWhole(int end) {
            whole = 0;
            for (int i = start; i < end; i++) {
                whole = whole * 10 + byteAt(i) - '0';
            }
        }

        private void readDigits(int point, int end) {
            int found = 0;
            digits = 0;
            place = 0;
            for (int i = start; i < end && found < 3; i++) {
                int digit = byteAt(i) - '0';
                if (i != point && (found > 0 || digit > 0)) {
                    if (found == 0) {
                        place = i < point ? point - 1 - i : point - i;
                    }
                    digits = digits * 10 + digit;
                    found++;
                }
            }
            for (int i = found; i < 3; i++) {
                digits = digits * 10;
            }
        }

        private int signKind(int sign) {
            at++;
            switch (sign) {
                case ';':
                    return SEMICOLON;
                case '<':
                    return LESS;
                case '*':
                    return TIMES;
                case '/':
                    return BY;
                case '=':
                    if (byteAt(at) == '=') {
                        at++;
                        return SAME;
                    }
                    return IS;
                default:
                    return NO_TOKEN;
            }
        }
    }

    /** A program's tokens, and how they were read. */
    private static final class Program {
        static final int SOUND = 0;
        private static final int SYNTAX = 1;
        private static final int ROOM = 2;
        private static final int UNTOLD = 4;
        private static final int WRONG = 5;

        static final int MOST_TOKENS = 400;
        static final int MOST_NAMES = 12;
        private static final int MOST_DEPTH = 6;
        private static final int MOST_TURNS = 99;

        // What may come next.
        private static final int NOTHING = 0;
        private static final int STEP = 1;
        private static final int TOLD_NAME = 2;
        private static final int TOLD_IS = 3;
        private static final int POWER = 4;
        private static final int POWER_ATOM = 5;
        private static final int POWER_END = 6;
        private static final int TURNS = 7;
        private static final int CONDITION = 8;
        private static final int FIRST_ATOM = 9;
        private static final int COMPARISON = 10;
        private static final int SECOND_ATOM = 11;

        private final int[] kinds;
        private final int[] starts;
        // Of a NUM its digits, of a NAME its number.
        private final int[] firsts;
        // Of a NUM its place, of one behind repeat the turns, of a repeat, if, else where it ends, of an end its start.
        private final int[] seconds;
        int tokenCount;
        private final long[] names;
        int nameCount;
        private int expected;
        private final int[] openTokens;
        private int depth;
        int fault;
        int faultPlace;

        Program() {
            kinds = new int[MOST_TOKENS];
            starts = new int[MOST_TOKENS];
            firsts = new int[MOST_TOKENS];
            seconds = new int[MOST_TOKENS];
            names = new long[MOST_NAMES];
            openTokens = new int[MOST_DEPTH];
            faultPlace = NONE;
        }

        private boolean hasToken(int token) {
            return token >= 0 && token < tokenCount && token < kinds.length;
        }

        int kindOf(int token) {
            return hasToken(token) ? kinds[token] : Tape.TEXT_END;
        }

        int startOf(int token) {
            return hasToken(token) ? starts[token] : NONE;
        }

        int firstOf(int token) {
            return hasToken(token) ? firsts[token] : 0;
        }

        int secondOf(int token) {
            return hasToken(token) ? seconds[token] : 0;
        }

        private void setSecond(int token, int number) {
            if (hasToken(token)) {
                seconds[token] = number;
            }
        }

        private void noteFault(int kind, int place) {
            if (fault == SOUND) {
                fault = kind;
                faultPlace = place;
            }
        }

        void readFrom(Tape tape) {
            tokenCount = 0;
            nameCount = 0;
            expected = STEP;
            depth = 0;
            fault = SOUND;
            faultPlace = NONE;
            tape.rewind();
            int kind = tape.nextKind();
            for (int i = 0; i < Tape.MOST_BYTES && kind != Tape.TEXT_END && fault == SOUND; i++) {
                takeToken(tape, kind);
                kind = tape.nextKind();
            }
            if (expected != STEP || depth > 0) {
                noteFault(SYNTAX, tape.size);
            }
            if (fault == SOUND) {
                checkAtoms();
            }
        }

        private void takeToken(Tape tape, int kind) {
            int next = follower(kind);
            if (next == NOTHING) {
                noteFault(SYNTAX, tape.start);
                return;
            }
            int number = kind == Tape.NAME ? nameNumber(tape.nameCode) : tape.digits;
            boolean nests = kind == Tape.REPEAT || kind == Tape.IF;
            if (tokenCount >= MOST_TOKENS || number >= MOST_NAMES && kind == Tape.NAME || nests && depth >= MOST_DEPTH) {
                noteFault(ROOM, tape.start);
                return;
            }
            kinds[tokenCount] = kind;
            starts[tokenCount] = tape.start;
            firsts[tokenCount] = number;
            seconds[tokenCount] = tape.place;
            tokenCount++;
            if (kind == Tape.NUM && expected == TURNS) {
                setSecond(tokenCount - 1, tape.pointed ? MOST_TURNS + 1 : tape.whole);
            }
            joinTokens(kind, tokenCount - 1);
            expected = next;
        }

        /** What may come behind a token of a kind where something is expected; NOTHING if the token may not come. */
        private int follower(int kind) {
            boolean atom = kind == Tape.NAME || kind == Tape.NUM;
            switch (expected) {
                case STEP:
                    return stepFollower(kind);
                case TOLD_NAME:
                    return kind == Tape.NAME ? TOLD_IS : NOTHING;
                case TOLD_IS:
                    return kind == Tape.IS ? POWER : NOTHING;
                case POWER:
                    if (kind >= Tape.SQUARE && kind <= Tape.OVER) {
                        return POWER_ATOM;
                    }
                    return atom ? POWER_END : NOTHING;
                case POWER_ATOM:
                    return atom ? POWER_END : NOTHING;
                case POWER_END:
                    if (kind == Tape.TIMES || kind == Tape.BY) {
                        return POWER;
                    }
                    return kind == Tape.SEMICOLON ? STEP : NOTHING;
                case TURNS:
                    return kind == Tape.NUM ? STEP : NOTHING;
                case CONDITION:
                    if (kind == Tape.SURELY) {
                        return FIRST_ATOM;
                    }
                    return atom ? COMPARISON : NOTHING;
                case FIRST_ATOM:
                    return atom ? COMPARISON : NOTHING;
                case COMPARISON:
                    return kind == Tape.LESS || kind == Tape.SAME ? SECOND_ATOM : NOTHING;
                case SECOND_ATOM:
                    return atom ? STEP : NOTHING;
                default:
                    return NOTHING;
            }
        }

        private int stepFollower(int kind) {
            switch (kind) {
                case Tape.LET:
                    return TOLD_NAME;
                case Tape.REPEAT:
                    return TURNS;
                case Tape.IF:
                    return CONDITION;
                case Tape.ELSE:
                    return depth > 0 && kindOf(openToken()) == Tape.IF ? STEP : NOTHING;
                case Tape.END:
                    return depth > 0 ? STEP : NOTHING;
                default:
                    return NOTHING;
            }
        }

        private int openToken() {
            return depth > 0 && depth <= openTokens.length ? openTokens[depth - 1] : NONE;
        }

        /** The number of a name, a new one if it was not there; MOST_NAMES if there is no room for it. */
        private int nameNumber(long code) {
            for (int i = 0; i < nameCount && i < names.length; i++) {
                if (names[i] == code) {
                    return i;
                }
            }
            if (nameCount >= names.length) {
                return MOST_NAMES;
            }
            names[nameCount] = code;
            nameCount++;
            return nameCount - 1;
        }

        private void joinTokens(int kind, int token) {
            if (kind == Tape.REPEAT || kind == Tape.IF) {
                depth++;
                setOpen(token);
            } else if (kind == Tape.ELSE) {
                setSecond(openToken(), token);
                setOpen(token);
            } else if (kind == Tape.END) {
                setSecond(openToken(), token);
                setSecond(token, openToken());
                depth--;
            }
        }

        private void setOpen(int token) {
            if (depth > 0 && depth <= openTokens.length) {
                openTokens[depth - 1] = token;
            }
        }

        private void checkAtoms() {
            int toldNames = 0;
            int telling = 0;
            for (int i = 0; i < tokenCount && fault == SOUND; i++) {
                int kind = kindOf(i);
                if (kind == Tape.NAME && kindOf(i - 1) == Tape.LET) {
                    telling = firstOf(i);
                } else if (kind == Tape.NAME && (toldNames >> firstOf(i) & 1) == 0) {
                    noteFault(UNTOLD, startOf(i));
                } else if (kind == Tape.SEMICOLON) {
                    toldNames |= 1 << telling;
                } else if (kind == Tape.NUM && isWrong(i)) {
                    noteFault(WRONG, startOf(i));
                }
            }
        }

        private boolean isWrong(int token) {
            if (kindOf(token - 1) == Tape.REPEAT) {
                return secondOf(token) > MOST_TURNS;
            }
            return firstOf(token) == 0;
        }
    }

    /** A number with its low and high ones. */
    private static final class Value {
        boolean told;
        int digits;
        int place;
        int lowDigits;
        int lowPlace;
        int highDigits;
        int highPlace;

        void setAlike(int digits, int place) {
            told = true;
            this.digits = digits;
            this.place = place;
            lowDigits = digits;
            lowPlace = place;
            highDigits = digits;
            highPlace = place;
        }

        void setSighted(Scale scale, int basePlace) {
            int mark = scale.sightedMark(0);
            int low = scale.sightedMark(1);
            int high = scale.sightedMark(2);
            told = true;
            digits = Scale.digitsOf(mark);
            place = basePlace + Scale.decadeOf(mark);
            lowDigits = Scale.digitsOf(low);
            lowPlace = basePlace + Scale.decadeOf(low);
            highDigits = Scale.digitsOf(high);
            highPlace = basePlace + Scale.decadeOf(high);
        }

        boolean isBeyond() {
            int least = Math.min(place, Math.min(lowPlace, highPlace));
            int most = Math.max(place, Math.max(lowPlace, highPlace));
            return least < -99 || most > 99;
        }

        int looseBy(Law law, int fold) {
            int reach = law.reachOf(digits, place);
            int below = reach - law.reachOf(lowDigits, lowPlace);
            int above = law.reachOf(highDigits, highPlace) - reach;
            return (Math.max(below, above) + fold - 1) / Math.max(1, fold);
        }

        boolean isLess(Value other, boolean surely) {
            if (surely) {
                return isBelow(highDigits, highPlace, other.lowDigits, other.lowPlace);
            }
            return isBelow(digits, place, other.digits, other.place);
        }

        boolean isSame(Value other, boolean surely) {
            if (surely) {
                return isSure() && other.isSure() && lowDigits == other.lowDigits && lowPlace == other.lowPlace;
            }
            return digits == other.digits && place == other.place;
        }

        private boolean isSure() {
            return lowDigits == highDigits && lowPlace == highPlace;
        }

        private static boolean isBelow(int digits, int place, int otherDigits, int otherPlace) {
            return place < otherPlace || place == otherPlace && digits < otherDigits;
        }

        int partAt(int what) {
            switch (what) {
                case 0:
                    return digits;
                case 1:
                    return place;
                case 2:
                    return lowDigits;
                case 3:
                    return lowPlace;
                case 4:
                    return highDigits;
                case 5:
                    return highPlace;
                default:
                    return NO_NUMBER;
            }
        }
    }

    /** Runs programs with the rule in hand, and keeps what the latest runs came to. */
    private static final class Runner {
        private static final int TOO_LONG = 1;
        private static final int BEYOND = 3;
        private static final int NO_VALUE = 6;
        private static final int MOST_STEPS = 200;
        // 200 steps have far fewer tokens: this only shows that a run ends.
        private static final int MOST_TOKENS_DONE = 1000000;

        private final Hand hand;
        private final Law law;
        private Program program;
        private Value[] kept;
        private Value[] current;
        private final Value first;
        private final Value second;
        private final Value raised;
        private final int[] powerDigits;
        private final int[] powerPlaces;
        private final int[] powerLoose;
        private final boolean[] powerIsOver;
        private int powers;
        private final int[] turnsLeft;
        private int steps;
        private int at;
        private int stepAt;
        int brokeWhy;
        int brokeWhere;
        int hairMoves;

        Runner(Hand hand, Law law) {
            this.hand = hand;
            this.law = law;
            kept = new Value[Program.MOST_NAMES];
            current = new Value[Program.MOST_NAMES];
            for (int i = 0; i < Program.MOST_NAMES; i++) {
                kept[i] = new Value();
                current[i] = new Value();
            }
            first = new Value();
            second = new Value();
            raised = new Value();
            powerDigits = new int[Program.MOST_TOKENS];
            powerPlaces = new int[Program.MOST_TOKENS];
            powerLoose = new int[Program.MOST_TOKENS];
            powerIsOver = new boolean[Program.MOST_TOKENS];
            turnsLeft = new int[Program.MOST_TOKENS];
            brokeWhere = NONE;
        }

        private static void untell(Value[] values) {
            for (int i = 0; i < values.length; i++) {
                if (values[i] != null) {
                    values[i].told = false;
                }
            }
        }

        void forgetValues() {
            untell(kept);
        }

        int keptPart(int name, int what) {
            Value value = name >= 0 && name < kept.length ? kept[name] : null;
            return value != null && value.told ? value.partAt(what) : NO_NUMBER;
        }

        /** A run: true if it came to its end, else the rule in hand is as it was. */
        boolean perform(Program text) {
            int s = hand.s;
            int h = hand.h;
            int u = hand.u;
            int v = hand.v;
            program = text;
            hand.startCounting();
            untell(current);
            steps = 0;
            at = 0;
            int why = Hand.DONE;
            for (int i = 0; i < MOST_TOKENS_DONE && at < program.tokenCount && why == Hand.DONE; i++) {
                switch (program.kindOf(at)) {
                    case Tape.LET:
                        why = beginLet();
                        break;
                    case Tape.TIMES:
                    case Tape.BY:
                        at++;
                        break;
                    case Tape.SEMICOLON:
                        why = endLet();
                        break;
                    case Tape.REPEAT:
                        why = beginTurns();
                        break;
                    case Tape.IF:
                        why = choose();
                        break;
                    case Tape.ELSE:
                        at = program.secondOf(at) + 1;
                        break;
                    case Tape.END:
                        why = endTurn();
                        break;
                    default:
                        why = raise();
                        break;
                }
            }
            if (why != Hand.DONE) {
                hand.setAll(s, h, u, v);
                brokeWhy = why;
                brokeWhere = program.startOf(stepAt);
                return false;
            }
            Value[] former = kept;
            kept = current;
            current = former;
            hairMoves = hand.hairMoves;
            return true;
        }

        private boolean countStep() {
            steps++;
            return steps <= MOST_STEPS;
        }

        private int beginTurns() {
            stepAt = at;
            if (!countStep()) {
                return TOO_LONG;
            }
            int turns = program.secondOf(at + 1);
            if (at >= 0 && at < turnsLeft.length) {
                turnsLeft[at] = turns;
            }
            at = turns > 0 ? at + 2 : program.secondOf(at) + 1;
            return Hand.DONE;
        }

        private int endTurn() {
            int begin = program.secondOf(at);
            boolean repeats = program.kindOf(begin) == Tape.REPEAT && begin >= 0 && begin < turnsLeft.length;
            if (!repeats || turnsLeft[begin] <= 1) {
                at++;
                return Hand.DONE;
            }
            stepAt = begin;
            if (!countStep()) {
                return TOO_LONG;
            }
            turnsLeft[begin]--;
            at = begin + 2;
            return Hand.DONE;
        }

        private int choose() {
            stepAt = at;
            if (!countStep()) {
                return TOO_LONG;
            }
            boolean surely = program.kindOf(at + 1) == Tape.SURELY;
            int atom = surely ? at + 2 : at + 1;
            Value left = atomAt(atom, first);
            Value right = atomAt(atom + 2, second);
            if (!left.told || !right.told) {
                return NO_VALUE;
            }
            boolean less = program.kindOf(atom + 1) == Tape.LESS;
            boolean holds = less ? left.isLess(right, surely) : left.isSame(right, surely);
            at = holds ? atom + 3 : program.secondOf(at) + 1;
            return Hand.DONE;
        }

        /** The value of an atom: a name's own, or the spare one set to a number. */
        private Value atomAt(int token, Value spare) {
            int number = program.firstOf(token);
            if (program.kindOf(token) == Tape.NUM) {
                spare.setAlike(number, program.secondOf(token));
                return spare;
            }
            if (number >= 0 && number < current.length && current[number] != null) {
                return current[number];
            }
            spare.told = false;
            return spare;
        }

        private int beginLet() {
            stepAt = at;
            powers = 0;
            at += 3;
            return countStep() ? Hand.DONE : TOO_LONG;
        }

        private int endLet() {
            int why = calculate();
            if (why != Hand.DONE) {
                return why;
            }
            Scale d = onBody(1);
            if (d == null) {
                return Hand.NO_SCALE;
            }
            if (!hand.shows(d)) {
                return Hand.FALLS_OFF;
            }
            Value told = atomAt(stepAt + 1, first);
            told.setSighted(d, hand.placeSoFar);
            at++;
            return told.isBeyond() ? BEYOND : Hand.DONE;
        }

        private Scale onBody(int fold) {
            return hand.rule == null ? null : hand.rule.firstLike(true, fold, false);
        }

        private Scale onSlide(boolean turned) {
            return hand.rule == null ? null : hand.rule.firstLike(false, 1, turned);
        }

        /** Works out the power that begins here, and keeps it for the end of its let. */
        private int raise() {
            if (!countStep()) {
                return TOO_LONG;
            }
            int word = program.kindOf(at);
            boolean bare = word == Tape.NUM || word == Tape.NAME;
            Value number = atomAt(bare ? at : at + 1, first);
            if (!number.told) {
                return NO_VALUE;
            }
            if (!bare) {
                int why = lookAcross(number, scaleToSet(word), scaleToRead(word), placeToRead(word, number.place));
                if (why != Hand.DONE) {
                    return why;
                }
                number = raised;
            }
            if (powers < powerDigits.length) {
                powerDigits[powers] = number.digits;
                powerPlaces[powers] = number.place;
                powerLoose[powers] = number.looseBy(law, 1);
                powerIsOver[powers] = program.kindOf(at - 1) == Tape.BY;
                powers++;
            }
            at += bare ? 1 : 2;
            return Hand.DONE;
        }

        private Scale scaleToSet(int word) {
            switch (word) {
                case Tape.ROOT:
                    return onBody(2);
                case Tape.THIRD:
                    return onBody(3);
                case Tape.OVER:
                    return onSlide(false);
                default:
                    return onBody(1);
            }
        }

        private Scale scaleToRead(int word) {
            switch (word) {
                case Tape.SQUARE:
                    return onBody(2);
                case Tape.CUBE:
                    return onBody(3);
                case Tape.OVER:
                    return onSlide(true);
                default:
                    return onBody(1);
            }
        }

        private static int placeToRead(int word, int place) {
            switch (word) {
                case Tape.SQUARE:
                    return 2 * place;
                case Tape.CUBE:
                    return 3 * place;
                case Tape.ROOT:
                    return Math.floorDiv(place, 2);
                case Tape.THIRD:
                    return Math.floorDiv(place, 3);
                default:
                    return -1 - place;
            }
        }

        private int lookAcross(Value number, Scale from, Scale to, int basePlace) {
            if (from == null) {
                return Hand.NO_SCALE;
            }
            int mark = from.markOfNumber(number.digits, number.place);
            int why = hand.judge(hand.bringHair(from, mark, number.looseBy(law, from.fold)));
            if (why != Hand.DONE) {
                return why;
            }
            if (to == null) {
                return Hand.NO_SCALE;
            }
            if (!hand.shows(to)) {
                return Hand.FALLS_OFF;
            }
            raised.setSighted(to, basePlace);
            return raised.isBeyond() ? BEYOND : Hand.DONE;
        }

        /** The moves of a let whose powers stand ready. */
        private int calculate() {
            int why = hand.startWith(onBody(1), powerDigits[0], powerPlaces[0], powerLoose[0]);
            Scale c = onSlide(false);
            for (int i = 1; i < powers && i < powerDigits.length && why == Hand.DONE; i++) {
                if (powerIsOver[i]) {
                    why = hand.divide(c, powerDigits[i], powerPlaces[i], powerLoose[i]);
                } else {
                    why = hand.multiply(c, powerDigits[i], powerPlaces[i], powerLoose[i], powerIsOver[i - 1]);
                }
            }
            return why;
        }
    }

    /** A product, and the order of its factors with the fewest moves. */
    private static final class Product {
        private static final int MOST_FACTORS = 7;
        private static final int MOST_ORDERS = 5040;
        private static final int MORE_THAN_ALL = 1000;

        private final int[] digits;
        private final int[] places;
        private final boolean[] over;
        int factorCount;
        private final Hand ideal;
        private final Scale d;
        private final Scale c;
        private final int[] trial;
        private final int[] best;
        private boolean settled;
        int bestSlides;
        int bestHairs;
        int bestPlace;

        Product(Law law) {
            digits = new int[MOST_FACTORS];
            places = new int[MOST_FACTORS];
            over = new boolean[MOST_FACTORS];
            ideal = new Hand(0, 0);
            d = new Scale(law, true, 1, false);
            c = new Scale(law, false, 1, false);
            trial = new int[MOST_FACTORS];
            best = new int[MOST_FACTORS];
        }

        int addFactor(int m, int e, boolean isOver) {
            if (factorCount >= MOST_FACTORS) {
                return NONE;
            }
            digits[factorCount] = m;
            places[factorCount] = e;
            over[factorCount] = isOver;
            factorCount++;
            settled = false;
            return factorCount - 1;
        }

        int removeAll() {
            int had = factorCount;
            factorCount = 0;
            settled = false;
            return had;
        }

        int factorInOrder(int i) {
            if (i < 0 || i >= factorCount || i >= best.length) {
                return NONE;
            }
            settle();
            return best[i];
        }

        /** Finds the best order, unless the factors are still those it was found for. */
        void settle() {
            if (settled) {
                return;
            }
            settled = true;
            bestSlides = MORE_THAN_ALL;
            bestHairs = MORE_THAN_ALL;
            for (int i = 0; i < trial.length; i++) {
                trial[i] = i;
            }
            boolean anyTimes = hasTimes();
            boolean more = true;
            for (int i = 0; i < MOST_ORDERS && more; i++) {
                if (!anyTimes || !isOver(trial[0])) {
                    tryOrder(anyTimes);
                }
                more = toNextTrial();
            }
        }

        private boolean hasTimes() {
            for (int i = 0; i < factorCount && i < over.length; i++) {
                if (!over[i]) {
                    return true;
                }
            }
            return false;
        }

        private boolean isOver(int factor) {
            return factor >= 0 && factor < over.length && over[factor];
        }

        private void tryOrder(boolean firstIsSet) {
            ideal.setAll(0, 0, 0, 0);
            ideal.startCounting();
            boolean behindOver = false;
            for (int i = 0; i < factorCount && i < trial.length; i++) {
                int k = Math.max(0, Math.min(MOST_FACTORS - 1, trial[i]));
                if (i == 0 && firstIsSet) {
                    ideal.startWith(d, digits[k], places[k], 0);
                } else if (over[k]) {
                    ideal.divide(c, digits[k], places[k], 0);
                } else {
                    ideal.multiply(c, digits[k], places[k], 0, behindOver);
                }
                behindOver = over[k];
            }
            boolean better = ideal.slideMoves < bestSlides
                    || ideal.slideMoves == bestSlides && ideal.hairMoves < bestHairs;
            if (better) {
                bestSlides = ideal.slideMoves;
                bestHairs = ideal.hairMoves;
                bestPlace = ideal.placeSoFar;
                System.arraycopy(trial, 0, best, 0, best.length);
            }
        }

        /** Puts the next order in place of the one tried, the least first; false if there is none. */
        private boolean toNextTrial() {
            int turn = Math.min(factorCount, trial.length) - 2;
            while (turn >= 0 && trial[turn] > trial[turn + 1]) {
                turn--;
            }
            if (turn < 0) {
                return false;
            }
            int next = Math.min(factorCount, trial.length) - 1;
            while (next > turn && trial[next] < trial[turn]) {
                next--;
            }
            swapTrials(turn, next);
            int high = Math.min(factorCount, trial.length) - 1;
            for (int low = turn + 1; low < high; low++) {
                swapTrials(low, high);
                high--;
            }
            return true;
        }

        private void swapTrials(int one, int other) {
            int held = trial[one];
            trial[one] = trial[other];
            trial[other] = held;
        }
    }

    /** A chart of three lines. */
    private static final class Chart {
        private int a;
        private int b;
        private int t;
        private int c;

        Chart() {
            a = 1;
            b = 1;
            t = 4;
            c = 2;
        }

        boolean draw(int left, int right, int eighths, int middle) {
            boolean sound = left >= 1 && left <= 3 && right >= 1 && right <= 3
                    && eighths >= 1 && eighths <= 7 && middle >= 1 && middle <= 9;
            if (sound) {
                a = left;
                b = right;
                t = eighths;
                c = middle;
            }
            return sound;
        }

        int middleReach(int leftReach, int rightReach) {
            int left = Math.floorDiv(leftReach, Math.max(1, a));
            int right = Math.floorDiv(rightReach, Math.max(1, b));
            return Math.floorDiv(left * (8 - t) + right * t, 8) * c;
        }

        static int firstFor(int i, int k) {
            for (int left = 1; left <= 3; left++) {
                for (int right = 1; right <= 3; right++) {
                    for (int eighths = 1; eighths <= 7; eighths++) {
                        int middle = middleFor(left * i, right * k, eighths);
                        if (middle != NONE) {
                            return 1000 * left + 100 * right + 10 * eighths + middle;
                        }
                    }
                }
            }
            return LACKING;
        }

        private static int middleFor(int left, int right, int eighths) {
            for (int middle = 1; middle <= 9; middle++) {
                if (middle * (8 - eighths) == 8 * left && middle * eighths == 8 * right) {
                    return middle;
                }
            }
            return NONE;
        }
    }

    /** The book of facts, and the guesses that fit what it knew. */
    private static final class Book {
        private static final int MOST_FACTS = 80;
        private static final int FLAWS = 2 * Scale.MOST_FLAW;
        private static final int PER_SCALE = Scale.STRETCHES * FLAWS;
        private static final int MOST_GUESSES = 1 + Rule.MOST_SCALES * PER_SCALE;

        private final int[] ruleOf;
        private final int[] apart;
        private final int[] oneSlot;
        private final int[] otherSlot;
        private final int[] struck;
        int factCount;
        private final boolean[] known;
        // How many known facts a guess does not fit, and the sum of their numbers: of one alone, its number.
        private final int[] misfits;
        private final int[] misfitSums;
        private int guessCount;
        private final int[] gains;

        Book() {
            ruleOf = new int[MOST_FACTS];
            apart = new int[MOST_FACTS];
            oneSlot = new int[MOST_FACTS];
            otherSlot = new int[MOST_FACTS];
            struck = new int[MOST_FACTS];
            known = new boolean[MOST_FACTS];
            misfits = new int[MOST_GUESSES];
            misfitSums = new int[MOST_GUESSES];
            gains = new int[MOST_FACTS];
        }

        static int slot(int scale, int place) {
            return scale * Scale.STRETCHES + Scale.stretchOf(place);
        }

        int addShown(int rule, int difference, int one, int other) {
            if (factCount >= MOST_FACTS) {
                return NONE;
            }
            ruleOf[factCount] = rule;
            apart[factCount] = difference;
            oneSlot[factCount] = one;
            otherSlot[factCount] = other;
            struck[factCount] = NONE;
            factCount++;
            return factCount - 1;
        }

        int addStrike(int fact) {
            if (factCount >= MOST_FACTS || fact < 0 || fact >= factCount || ruleOf[fact] == NONE) {
                return NONE;
            }
            ruleOf[factCount] = NONE;
            struck[factCount] = fact;
            factCount++;
            return factCount - 1;
        }

        private void noteKnown(int rule, int n) {
            for (int i = 0; i < known.length; i++) {
                known[i] = i < n && ruleOf[i] == rule;
            }
            for (int i = 0; i < n && i < struck.length; i++) {
                if (ruleOf[i] == NONE && struck[i] >= 0 && struck[i] < known.length) {
                    known[struck[i]] = false;
                }
            }
        }

        /** Finds for each guess of a rule what it does not fit of the first n facts. */
        void weigh(int rule, int n, int scales, int most) {
            noteKnown(rule, n);
            guessCount = Math.min(MOST_GUESSES, 1 + scales * PER_SCALE);
            int misses = 0;
            int sum = 0;
            for (int fact = 0; fact < known.length; fact++) {
                if (known[fact] && Math.abs(apart[fact]) > most) {
                    misses++;
                    sum += fact;
                }
            }
            for (int i = 0; i < guessCount; i++) {
                misfits[i] = misses;
                misfitSums[i] = sum;
            }
            // A flaw changes only the facts with a mark in its stretch.
            for (int fact = 0; fact < known.length; fact++) {
                if (known[fact]) {
                    weighFlaws(fact, oneSlot[fact], 1, most);
                    weighFlaws(fact, otherSlot[fact], -1, most);
                }
            }
        }

        private void weighFlaws(int fact, int slot, int sign, int most) {
            boolean missed = Math.abs(apart[fact]) > most;
            for (int i = 0; i < FLAWS; i++) {
                boolean misses = Math.abs(apart[fact] + sign * flawAt(i)) > most;
                int number = 1 + slot * FLAWS + i;
                if (misses != missed && number >= 0 && number < misfits.length) {
                    misfits[number] += misses ? 1 : -1;
                    misfitSums[number] += misses ? fact : -fact;
                }
            }
        }

        private static int flawAt(int i) {
            return i < Scale.MOST_FLAW ? i - Scale.MOST_FLAW : i - Scale.MOST_FLAW + 1;
        }

        int fitting() {
            int fits = 0;
            for (int i = 0; i < guessCount; i++) {
                if (misfits[i] == 0) {
                    fits++;
                }
            }
            return fits;
        }

        /** The guess that is the i-th one to fit; NONE if there are not so many. */
        int fittingAt(int i) {
            int left = i;
            for (int number = 0; number < guessCount; number++) {
                if (misfits[number] == 0) {
                    if (left == 0) {
                        return number;
                    }
                    left--;
                }
            }
            return NONE;
        }

        int guessPart(int number, int what) {
            if (number == NONE) {
                return NO_NUMBER;
            }
            if (number == 0) {
                return what == 0 ? LACKING : 0;
            }
            int rest = number - 1;
            if (what == 0) {
                return rest / PER_SCALE;
            }
            return what == 1 ? rest / FLAWS % Scale.STRETCHES : flawAt(rest % FLAWS);
        }

        int blamedScale() {
            int blamed = LACKING;
            for (int number = 0; number < guessCount; number++) {
                if (misfits[number] == 0) {
                    int scale = guessPart(number, 0);
                    if (scale == LACKING || blamed != LACKING && blamed != scale) {
                        return LACKING;
                    }
                    blamed = scale;
                }
            }
            return blamed;
        }

        int oddOne() {
            for (int i = 0; i < gains.length; i++) {
                gains[i] = 0;
            }
            for (int number = 0; number < guessCount; number++) {
                int alone = misfitSums[number];
                if (misfits[number] == 1 && alone >= 0 && alone < gains.length) {
                    gains[alone]++;
                }
            }
            int odd = NONE;
            for (int fact = 0; fact < known.length; fact++) {
                if (known[fact] && (odd == NONE || gains[fact] > gains[odd])) {
                    odd = fact;
                }
            }
            return odd;
        }
    }
}
