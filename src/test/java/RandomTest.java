import java.util.Random;

/** Random calls, each compared with what the oracle answers. */
public final class RandomTest {
    private static final Due due = new Due();
    private static final String[] NAMES = {"a", "b", "lenx", "height", "abcdefgh", "z", "lets", "ends", "ifa", "over0"};

    private final Random random;
    private final SlideWorks x = new SlideWorks();
    private final Oracle o = new Oracle();
    private final int lean;
    private final int secretScale;
    private final int secretStretch;
    private final int secretFlaw;
    private int calls;

    private RandomTest(long seed) {
        // Seeds next to one another begin alike unless they are spread.
        random = new Random(seed * 0x9E3779B97F4A7C15L);
        secretScale = random.nextInt(2);
        secretStretch = random.nextInt(16);
        secretFlaw = random.nextBoolean() ? 18 : -18;
        lean = random.nextInt(6);
        due.promise("seed " + seed);
    }

    public static void main(String[] args) {
        int objects = args.length > 0 ? Integer.parseInt(args[0]) : 400;
        long first = args.length > 1 ? Long.parseLong(args[1]) : 1;
        for (long seed = first; seed < first + objects; seed++) {
            int before = due.failures();
            RandomTest test = new RandomTest(seed);
            while (test.calls < 512 && due.failures() == before) {
                test.one();
            }
        }
        due.close();
    }

    private void is(String call, long got, long want) {
        calls++;
        due.is("call " + calls + " " + call, got, want);
    }

    private void is(String call, boolean got, boolean want) {
        is(call, got ? 1 : 0, want ? 1 : 0);
    }

    private boolean chance(int percent) {
        return random.nextInt(100) < percent;
    }

    /** Mostly from low to high, now and then an edge or one beyond. */
    private int pick(int low, int high) {
        if (chance(3)) {
            int[] odd = {low - 1, high + 1, Integer.MIN_VALUE, Integer.MAX_VALUE, 0, -1, low, high};
            return odd[random.nextInt(odd.length)];
        }
        return low + random.nextInt(high - low + 1);
    }

    private int digits() {
        if (chance(10)) {
            return chance(50) ? 100 : 999;
        }
        return pick(100, 999);
    }

    private int power() {
        return chance(70) ? pick(-4, 4) : pick(-99, 99);
    }

    private int rulePick() {
        return pick(0, Math.max(0, x.count(0) - 1));
    }

    private void one() {
        if (calls == 0 && chance(90)) {
            setUp();
            return;
        }
        int kind = random.nextInt(100);
        if (lean == 0 && kind < 70 || kind < 30) {
            byHand();
        } else if (lean == 1 && kind < 80 || kind < 40) {
            programs();
        } else if (lean == 2 && kind < 80 || kind < 50) {
            book();
        } else if (lean == 3 && kind < 80 || kind < 60) {
            products();
        } else if (kind < 75) {
            readings();
        } else if (kind < 85) {
            charts();
        } else if (kind < 90) {
            settings();
        } else {
            plain();
        }
    }

    private void setUp() {
        int rules = 1 + random.nextInt(4);
        for (int i = 0; i < rules; i++) {
            is("rule", x.rule(), newRule());
        }
        for (int i = 0; i < rules; i++) {
            int scales = i == 0 ? random.nextInt(4) : random.nextInt(9);
            for (int k = 0; k < scales; k++) {
                addScale(i);
            }
        }
        if (chance(90)) {
            for (int k = 0; k < 5; k++) {
                boolean body = k != 1 && k != 4;
                int fold = k == 2 ? 2 : k == 3 ? 3 : 1;
                boolean turned = k == 4;
                is("scale", x.scale(0, body, fold, turned), newScale(0, body, fold, turned));
            }
        }
        take(0);
    }

    private int newRule() {
        if (o.rules.size() == 4) {
            return -1;
        }
        o.rules.add(new java.util.ArrayList<>());
        return o.rules.size() - 1;
    }

    private int newScale(int rule, boolean body, int fold, boolean turned) {
        if (rule < 0 || rule >= o.rules.size() || fold < 1 || fold > 3 || o.rules.get(rule).size() == 8) {
            return -1;
        }
        Oracle.OracleScale s = new Oracle.OracleScale();
        s.body = body;
        s.fold = fold;
        s.turned = turned;
        o.rules.get(rule).add(s);
        return o.rules.get(rule).size() - 1;
    }

    private void addScale(int rule) {
        boolean body = chance(60);
        int fold = chance(50) ? 1 : pick(1, 3);
        boolean turned = chance(25);
        is("scale " + rule, x.scale(rule, body, fold, turned), newScale(rule, body, fold, turned));
    }

    private void take(int rule) {
        boolean fine = rule >= 0 && rule < o.rules.size();
        if (fine) {
            o.inHand = rule;
            o.s = 0;
            o.h = 0;
            o.u = 0;
            o.v = 0;
        }
        is("take " + rule, x.take(rule), fine);
    }

    private void settings() {
        switch (random.nextInt(5)) {
            case 0:
                is("rule", x.rule(), newRule());
                break;
            case 1:
                addScale(pick(0, 3));
                break;
            case 2:
                take(chance(70) ? 0 : rulePick());
                break;
            case 3: {
                int a = pick(0, 20), b = pick(9, 40);
                boolean fine = a >= 0 && a <= 20 && b >= 9 && b <= 40;
                if (fine) {
                    o.hand = a;
                    o.eye = b;
                }
                is("steps " + a + " " + b, x.steps(a, b), fine);
                break;
            }
            default: {
                int r = rulePick(), s = pick(0, 7), t = pick(0, 15), d = chance(30) ? pick(-3, 3) : pick(-20, 20);
                Oracle.OracleScale c = o.scaleOf(r, s);
                boolean fine = c != null && t >= 0 && t < 16 && d >= -20 && d <= 20;
                if (fine) {
                    c.flaw[t] = d;
                }
                is("flaw " + r + " " + s + " " + t + " " + d, x.flaw(r, s, t, d), fine);
            }
        }
    }

    private void readings() {
        int r = rulePick(), s = pick(0, 7);
        Oracle.OracleScale c = o.scaleOf(r, s);
        switch (random.nextInt(4)) {
            case 0: {
                int f = pick(0, 3), m = f == 3 || chance(20) ? 100 : digits();
                is("cut " + f + " " + m, x.cut(r, s, f, m), c == null || !c.has(f, m) ? -1000 : c.cut(f, m));
                break;
            }
            case 1: {
                int at = pick(0, 4096), q = chance(50) ? pick(0, 30) : pick(0, 999), what = pick(0, 2);
                boolean fine = c != null && at >= 0 && at <= 4096 && q >= 0 && q <= 999 && what >= 0 && what <= 2;
                int want = -1;
                if (fine) {
                    int[] mark = c.see(at, q)[what];
                    want = 1000 * mark[0] + mark[1];
                }
                is("seen " + r + " " + s + " " + at + " " + q + " " + what, x.seen(r, s, at, q, what), want);
                break;
            }
            case 2: {
                int gap = chance(50) ? pick(1, 40) : pick(1, 300), f = pick(0, 2), j = pick(1, 9);
                is("step " + gap + " " + f + " " + j, x.step(r, s, gap, f, j), o.step(r, s, gap, f, j));
                break;
            }
            default: {
                int gap = chance(50) ? pick(1, 40) : pick(1, 300);
                is("marks " + gap, x.marks(r, s, gap), o.marks(r, s, gap));
            }
        }
    }

    private void byHand() {
        int s = pick(0, 7), m = digits(), e = power();
        switch (random.nextInt(6)) {
            case 0:
            case 1:
                is("hair " + s + " " + m + " " + e, x.hair(s, m, e), o.hair(s, m, e));
                break;
            case 2: {
                Oracle.OracleScale c = o.scaleOf(o.inHand, s);
                int want = c == null || c.body ? -5000 : o.slide(s, m, e);
                is("slide " + s + " " + m + " " + e, x.slide(s, m, e), want);
                break;
            }
            case 3: {
                boolean right = chance(50);
                is("index " + right, x.index(right), o.inHand < 0 ? -5000 : o.slideTo(right ? 4096 : 0));
                break;
            }
            case 4: {
                int what = pick(0, 2);
                is("look " + s + " " + what, x.look(s, what), o.look(s, what));
                break;
            }
            default:
                state(pick(0, 4));
        }
    }

    private void state(int what) {
        int[] all = {o.inHand, o.s, o.h, o.u, o.v};
        is("state " + what, x.state(what), o.inHand < 0 || what < 0 || what > 4 ? -5000 : all[what]);
    }

    private void products() {
        switch (random.nextInt(6)) {
            case 0:
            case 1: {
                int m = digits(), e = power();
                boolean over = chance(lean == 3 ? 55 : 90);
                int want = -1;
                if (o.factors.size() < 7 && Oracle.number(m, e)) {
                    want = o.factors.size();
                    o.factors.add(new int[] {m, e, over ? 1 : 0});
                }
                is("factor " + m + " " + e + " " + over, x.factor(m, e, over), want);
                break;
            }
            case 2:
                if (chance(25)) {
                    is("clear", x.clear(), o.factors.size());
                    o.factors.clear();
                }
                break;
            case 3: {
                int i = pick(0, 7);
                is("order " + i, x.order(i), o.order(i));
                break;
            }
            default: {
                int what = pick(0, 2);
                is("fewest " + what, x.fewest(what), o.fewest(what));
            }
        }
    }

    private void charts() {
        switch (random.nextInt(3)) {
            case 0: {
                int a = pick(1, 3), b = pick(1, 3), t = pick(1, 7), c = pick(1, 9);
                boolean fine = a >= 1 && a <= 3 && b >= 1 && b <= 3 && t >= 1 && t <= 7 && c >= 1 && c <= 9;
                if (fine) {
                    o.chart = new int[] {a, b, t, c};
                }
                is("chart " + a + " " + b + " " + t + " " + c, x.chart(a, b, t, c), fine);
                break;
            }
            case 1: {
                int m = digits(), e = power(), n = digits(), f = power(), what = pick(0, 1);
                is("thread " + m + " " + e + " " + n + " " + f + " " + what, x.thread(m, e, n, f, what),
                        o.thread(m, e, n, f, what));
                break;
            }
            default: {
                int i = pick(1, 3), k = pick(1, 3);
                is("design " + i + " " + k, x.design(i, k), Oracle.design(i, k));
            }
        }
    }

    private void book() {
        int r = rulePick();
        int kind = random.nextInt(10);
        int n = chance(60) ? o.facts.size() : pick(0, o.facts.size() + 1);
        if (kind < 4 && (o.facts.size() < 12 || chance(lean == 2 ? 40 : 3))) {
            shown(r);
        } else if (kind == 4) {
            int fact = pick(0, Math.max(0, o.facts.size() - 1));
            if (chance(40)) {
                is("strike " + fact, x.strike(fact), o.strike(fact));
            }
        } else if (kind == 5) {
            is("guesses " + r + " " + n, x.guesses(r, n), o.guesses(r, n));
        } else if (kind == 6) {
            int i = chance(50) ? pick(0, 5) : pick(0, Math.max(0, x.guesses(r, n)));
            int what = pick(0, 2);
            calls++;
            is("guess " + r + " " + n + " " + i + " " + what, x.guess(r, n, i, what), o.guess(r, n, i, what));
        } else if (kind == 7) {
            is("sure " + r + " " + n, x.sure(r, n), o.sure(r, n));
        } else if (kind == 8 && (o.facts.size() < 12 || chance(5))) {
            is("odd " + r + " " + n, x.odd(r, n), o.odd(r, n));
        }
    }

    /** Mostly a mark near to another one, so that some guesses fit. */
    private void shown(int r) {
        int one = chance(60) ? secretScale : pick(0, 7), other = pick(0, 7);
        Oracle.OracleScale a = o.scaleOf(r, one), b = o.scaleOf(r, other);
        int f = pick(0, 2), m = digits(), g = pick(0, 2), n = digits();
        if (a != null && Oracle.number(m, 0) && chance(60)) {
            for (int i = 0; i < 40 && a.truth(0, m) / 256 != secretStretch; i++) {
                f = 0;
                m = 100 + random.nextInt(900);
            }
        }
        if (a != null && b != null && chance(90)) {
            f = Math.floorMod(f, a.fold);
            m = chance(4) ? 100 : Math.max(100, Math.min(999, m));
            // Mostly as if one scale had a flaw, so that the guesses come to blame it.
            int x0 = a.truth(f, m) + random.nextInt(61) - 30;
            if (chance(85)) {
                x0 = a.truth(f, m) + random.nextInt(13) - 6;
                if (a.truth(f, m) / 256 == secretStretch) {
                    x0 += one == secretScale ? secretFlaw : 0;
                }
            }
            int[] near = b.see(Math.max(0, Math.min(4096, x0)), 0)[0];
            g = near[0];
            n = near[1];
        }
        is("shown " + r + " " + one + " " + f + " " + m + " " + other + " " + g + " " + n,
                x.shown(r, one, f, m, other, g, n), o.shown(r, one, f, m, other, g, n));
    }

    private void plain() {
        switch (random.nextInt(9)) {
            case 0: {
                int m = chance(50) ? digits() : pick(90, 1010);
                is("units " + m, x.units(m), m < 100 || m > 999 ? -1 : Oracle.units1(m));
                break;
            }
            case 1: {
                int[] five = random.ints(5).toArray();
                is("feed", x.feed(five[0], five[1], five[2], five[3], five[4]), o.feed(five));
                break;
            }
            case 2: {
                int n = chance(50) ? pick(0, 25) : pick(0, o.tape.length());
                is("back " + n, x.back(n), o.back(n));
                break;
            }
            case 3:
                if (o.tape.length() > 0 || chance(5)) {
                    is("read", x.read(), o.read());
                }
                break;
            case 4:
                is("place", x.place(), o.faultPlace);
                break;
            case 5:
                is("broke", x.broke(), o.broke);
                is("where", x.where(), o.where);
                break;
            case 6:
                is("moves", x.moves(), o.hairMoves);
                break;
            case 7: {
                int name = pick(0, 11), what = pick(0, 5);
                is("value " + name + " " + what, x.value(name, what), o.valuePart(name, what));
                break;
            }
            default: {
                int what = pick(0, 6);
                int[] all = {o.rules.size(), o.factors.size(), o.facts.size(), o.names.size(), o.tape.length(), o.hand, o.eye};
                is("count " + what, x.count(what), what < 0 || what > 6 ? -1 : all[what]);
            }
        }
    }

    // ---- programs

    private void programs() {
        int kind = random.nextInt(6);
        if (kind == 0) {
            if (chance(60)) {
                is("back all", x.back(o.tape.length()), o.back(o.tape.length()));
            }
            String text = new Author(random, NAMES).text();
            if (text.length() > 800) {
                text = text.substring(0, 800);
            }
            if (chance(25)) {
                text = spoil(text);
            }
            feed(text);
            is("read '" + o.tape + "'", x.read(), o.read());
            is("place", x.place(), o.faultPlace);
        } else if (kind < 4) {
            is("run", x.run(), o.run());
            is("broke", x.broke(), o.broke);
            is("where", x.where(), o.where);
            is("moves", x.moves(), o.hairMoves);
            for (int i = 0; i < 5; i++) {
                state(i);
            }
            for (int name = 0; name < o.names.size() && chance(70); name++) {
                for (int what = 0; what < 6; what++) {
                    is("value " + name + " " + what, x.value(name, what), o.valuePart(name, what));
                }
            }
        } else if (kind == 4) {
            take(chance(85) ? 0 : rulePick());
        } else if (chance(40)) {
            settings();
        } else {
            byHand();
        }
    }

    private void feed(String text) {
        calls += Texts.feed(x, text);
        for (int i = 0; i < text.length(); i += 20) {
            if (o.tape.length() + 20 <= 2000) {
                o.tape.append((text + "\0".repeat(20)), i, i + 20);
            }
        }
        if (text.length() % 20 != 0) {
            o.back(20 - text.length() % 20);
        }
        is("count 4", x.count(4), o.tape.length());
    }

    private String spoil(String text) {
        String signs = "abz059. \t\n\r;=<*/A\0\u00ff,=.";
        StringBuilder b = new StringBuilder(text);
        for (int i = 1 + random.nextInt(2); i > 0 && b.length() > 0; i--) {
            int at = random.nextInt(b.length());
            switch (random.nextInt(4)) {
                case 0:
                    b.deleteCharAt(at);
                    break;
                case 1:
                    b.insert(at, signs.charAt(random.nextInt(signs.length())));
                    break;
                case 2:
                    b.setCharAt(at, signs.charAt(random.nextInt(signs.length())));
                    break;
                default:
                    b.setLength(at);
            }
        }
        return b.toString();
    }
}
