import java.util.ArrayList;
import java.util.Arrays;
import java.util.HashSet;
import java.util.List;
import java.util.Map;
import java.util.LinkedHashMap;
import java.util.Set;
import java.util.regex.Matcher;
import java.util.regex.Pattern;

/** The document once more, in the slowest and plainest form, with the Java library: what random calls are compared with. */
final class Oracle {
    static final class OracleScale {
        boolean body;
        int fold;
        boolean turned;
        int[] flaw = new int[16];

        int truth(int f, int m) {
            int t = (units1(m) + 4096 * f) / fold;
            return turned ? 4096 - t : t;
        }

        int cut(int f, int m) {
            int t = truth(f, m);
            return t + flaw[t == 4096 ? 15 : t / 256];
        }

        boolean has(int f, int m) {
            return f >= 0 && f < fold && m >= 100 && m <= 999 || f == fold && m == 100;
        }

        /** {f, m} of SEEN, LOW, HIGH. */
        int[][] see(int x, int q) {
            int[] seen = null, low = null, high = null;
            for (int f = 0; f <= fold; f++) {
                for (int m = 100; m <= 999; m++) {
                    if (!has(f, m)) {
                        continue;
                    }
                    int gap = Math.abs(cut(f, m) - x);
                    if (seen == null || gap < Math.abs(cut(seen[0], seen[1]) - x)) {
                        seen = new int[] {f, m};
                    }
                    if (gap <= q) {
                        high = new int[] {f, m};
                        low = low == null ? high : low;
                    }
                }
            }
            return new int[][] {seen, low == null ? seen : low, high == null ? seen : high};
        }
    }

    static final class Num {
        final int m;
        final int e;

        Num(int m, int e) {
            this.m = m;
            this.e = e;
        }

        int reach() {
            return units1(m) + 4096 * e;
        }

        boolean less(Num other) {
            return e != other.e ? e < other.e : m < other.m;
        }

        boolean same(Num other) {
            return m == other.m && e == other.e;
        }
    }

    static final class Val {
        Num n;
        Num low;
        Num high;

        Val(Num n, Num low, Num high) {
            this.n = n;
            this.low = low;
            this.high = high;
        }

        int loose(int fold) {
            int most = Math.max(n.reach() - low.reach(), high.reach() - n.reach());
            return (int) Math.ceil(most / (double) fold);
        }
    }

    static final class Broken extends Exception {
        final int why;
        final int where;

        Broken(int why, int where) {
            this.why = why;
            this.where = where;
        }
    }

    static final class Fact {
        int rule;
        int[] one;
        int[] other;
        int strikes = -1;
    }

    static final int[] UNITS = new int[1000];

    static int units1(int m) {
        if (m == 100) {
            return 0;
        }
        if (UNITS[m] == 0) {
            long x = m * 1000000L;
            int r = 0;
            for (int i = 11; i >= 0; i--) {
                x = x * x / 100000000L;
                if (x >= 1000000000L) {
                    x /= 10;
                    r |= 1 << i;
                }
            }
            UNITS[m] = r;
        }
        return UNITS[m];
    }

    final List<List<OracleScale>> rules = new ArrayList<>();
    final StringBuilder tape = new StringBuilder();
    String text = "";
    Map<String, Integer> names = new LinkedHashMap<>();
    Map<String, Val> values = new LinkedHashMap<>();
    int faultPlace = -1;
    int hand = 2, eye = 10;
    int inHand = -1;
    int s, h, u, v;
    int broke = 0, where = -1, hairMoves = 0;
    final List<int[]> factors = new ArrayList<>();
    int[] chart = {1, 1, 4, 2};
    final List<Fact> facts = new ArrayList<>();

    static boolean number(int m, int e) {
        return m >= 100 && m <= 999 && e >= -99 && e <= 99;
    }

    OracleScale scaleOf(int rule, int scale) {
        if (rule < 0 || rule >= rules.size() || scale < 0 || scale >= rules.get(rule).size()) {
            return null;
        }
        return rules.get(rule).get(scale);
    }

    int feed(int... five) {
        if (tape.length() + 20 > 2000) {
            return -1;
        }
        for (int x : five) {
            for (int k = 3; k >= 0; k--) {
                tape.append((char) ((x >>> (8 * k)) & 255));
            }
        }
        return tape.length();
    }

    int back(int n) {
        if (n < 0 || n > tape.length()) {
            return -1;
        }
        tape.setLength(tape.length() - n);
        return tape.length();
    }

    // ---- programs

    static final Set<String> WORDS = new HashSet<>(Arrays.asList("let", "repeat", "end", "if", "surely", "else",
            "square", "cube", "root", "third", "over"));
    static final Set<String> POWERS = new HashSet<>(Arrays.asList("square", "cube", "root", "third", "over"));

    static final class Tok {
        final String s;
        final int at;

        Tok(String s, int at) {
            this.s = s;
            this.at = at;
        }

        boolean name() {
            return s.matches("[a-z]+") && !WORDS.contains(s);
        }

        boolean num() {
            return s.matches("[0-9].*");
        }
    }

    static final class Fault extends Exception {
        final int kind;
        final int at;

        Fault(int kind, int at) {
            this.kind = kind;
            this.at = at;
        }
    }

    static final Pattern RAW = Pattern.compile("[a-z]+|[0-9]+(\\.[0-9]+)?|==|[;=<*/]");
    static final Pattern GOOD = Pattern.compile("[a-z]{1,8}|[0-9]{1,4}(\\.[0-9]{1,4})?|==|[;=<*/]");

    /** The tokens; what is none stands as a token with an empty text, the end as one with "$". */
    static List<Tok> tokens(String t) {
        List<Tok> all = new ArrayList<>();
        int at = 0;
        while (true) {
            while (at < t.length() && "\t\n\r ".indexOf(t.charAt(at)) >= 0) {
                at++;
            }
            if (at == t.length()) {
                all.add(new Tok("$", at));
                return all;
            }
            Matcher raw = RAW.matcher(t).region(at, t.length());
            if (!raw.lookingAt() || !GOOD.matcher(raw.group()).matches()) {
                all.add(new Tok("", at));
                return all;
            }
            all.add(new Tok(raw.group(), at));
            at = raw.end();
        }
    }

    List<Tok> toks;
    int pos;

    Tok peek() {
        return toks.get(Math.min(pos, toks.size() - 1));
    }

    /** Counts the rooms of the token that the grammar has just agreed to. */
    Tok accept(int depth, Set<String> found) throws Fault {
        Tok t = peek();
        if (pos == 400) {
            throw new Fault(2, t.at);
        }
        if (t.name() && found.add(t.s) && found.size() > 12) {
            throw new Fault(2, t.at);
        }
        if ((t.s.equals("repeat") || t.s.equals("if")) && depth >= 6) {
            throw new Fault(2, t.at);
        }
        pos++;
        return t;
    }

    void want(boolean ok) throws Fault {
        if (!ok) {
            throw new Fault(1, peek().at);
        }
    }

    void atom(int depth, Set<String> found) throws Fault {
        want(peek().name() || peek().num());
        accept(depth, found);
    }

    void power(int depth, Set<String> found) throws Fault {
        if (POWERS.contains(peek().s)) {
            accept(depth, found);
        }
        atom(depth, found);
    }

    void word(String w, int depth, Set<String> found) throws Fault {
        want(peek().s.equals(w));
        accept(depth, found);
    }

    void parseSteps(int depth, Set<String> found) throws Fault {
        while (true) {
            String w = peek().s;
            if (w.equals("let")) {
                accept(depth, found);
                want(peek().name());
                accept(depth, found);
                word("=", depth, found);
                power(depth, found);
                while (peek().s.equals("*") || peek().s.equals("/")) {
                    accept(depth, found);
                    power(depth, found);
                }
                word(";", depth, found);
            } else if (w.equals("repeat")) {
                accept(depth, found);
                want(peek().num());
                accept(depth, found);
                parseSteps(depth + 1, found);
                word("end", depth, found);
            } else if (w.equals("if")) {
                accept(depth, found);
                if (peek().s.equals("surely")) {
                    accept(depth, found);
                }
                atom(depth, found);
                want(peek().s.equals("<") || peek().s.equals("=="));
                accept(depth, found);
                atom(depth, found);
                parseSteps(depth + 1, found);
                if (peek().s.equals("else")) {
                    accept(depth, found);
                    parseSteps(depth + 1, found);
                }
                word("end", depth, found);
            } else {
                return;
            }
        }
    }

    int read() {
        String t = tape.toString();
        tape.setLength(0);
        faultPlace = -1;
        List<Tok> before = toks;
        toks = tokens(t);
        pos = 0;
        Set<String> found = new java.util.LinkedHashSet<>();
        try {
            parseSteps(0, found);
            want(peek().s.equals("$"));
            meaning();
        } catch (Fault f) {
            faultPlace = f.at;
            toks = before;
            return f.kind;
        }
        names = new LinkedHashMap<>();
        for (String each : found) {
            names.put(each, names.size());
        }
        values = new LinkedHashMap<>();
        return 0;
    }

    void meaning() throws Fault {
        Set<String> told = new HashSet<>();
        String telling = null;
        for (int i = 0; i < toks.size(); i++) {
            Tok t = toks.get(i);
            String prior = i == 0 ? "" : toks.get(i - 1).s;
            if (t.name()) {
                if (prior.equals("let")) {
                    telling = t.s;
                } else if (!told.contains(t.s)) {
                    throw new Fault(4, t.at);
                }
            }
            if (t.s.equals(";")) {
                told.add(telling);
            }
            if (t.num()) {
                boolean bad = prior.equals("repeat") ? t.s.contains(".") || Integer.parseInt(t.s) > 99
                        : !t.s.matches(".*[1-9].*");
                if (bad) {
                    throw new Fault(5, t.at);
                }
            }
        }
    }

    static Num numOf(String s) {
        String ints = s.contains(".") ? s.substring(0, s.indexOf('.')) : s;
        String all = s.replace(".", "");
        int first = 0;
        while (all.charAt(first) == '0') {
            first++;
        }
        String three = (all.substring(first) + "000").substring(0, 3);
        return new Num(Integer.parseInt(three), ints.length() - 1 - first);
    }

    int stepsDone;
    int slideCount;
    int hairCount;
    Map<String, Val> fresh;

    int run() {
        if (inHand < 0) {
            return -1;
        }
        int[] old = {s, h, u, v};
        fresh = new LinkedHashMap<>();
        stepsDone = 0;
        slideCount = 0;
        hairCount = 0;
        try {
            if (toks != null) {
                pos = 0;
                doSteps(true);
            }
        } catch (Broken b) {
            s = old[0];
            h = old[1];
            u = old[2];
            v = old[3];
            broke = b.why;
            where = b.where;
            return -2;
        }
        values = fresh;
        hairMoves = hairCount;
        return slideCount;
    }

    void countStep(int at) throws Broken {
        stepsDone++;
        if (stepsDone > 200) {
            throw new Broken(1, at);
        }
    }

    /** Goes through steps up to an else, an end or the text's end; only past them if not doing. */
    void doSteps(boolean doing) throws Broken {
        while (true) {
            Tok t = peek();
            if (t.s.equals("let")) {
                doLet(doing);
            } else if (t.s.equals("repeat")) {
                if (doing) {
                    countStep(t.at);
                }
                pos++;
                int turns = Integer.parseInt(toks.get(pos++).s);
                int begin = pos;
                for (int i = 0; doing && i < turns; i++) {
                    if (i > 0) {
                        countStep(t.at);
                    }
                    pos = begin;
                    doSteps(true);
                }
                if (!doing || turns == 0) {
                    doSteps(false);
                }
                pos++;
            } else if (t.s.equals("if")) {
                if (doing) {
                    countStep(t.at);
                }
                pos++;
                boolean surely = peek().s.equals("surely");
                if (surely) {
                    pos++;
                }
                String a = toks.get(pos).s, sign = toks.get(pos + 1).s, b = toks.get(pos + 2).s;
                pos += 3;
                boolean holds = doing && compare(value(a, t.at), value(b, t.at), sign, surely);
                doSteps(doing && holds);
                if (peek().s.equals("else")) {
                    pos++;
                    doSteps(doing && !holds);
                }
                pos++;
            } else {
                return;
            }
        }
    }

    static boolean compare(Val a, Val b, String sign, boolean surely) {
        if (sign.equals("<")) {
            return surely ? a.high.less(b.low) : a.n.less(b.n);
        }
        if (surely) {
            return a.low.same(a.high) && a.high.same(b.low) && b.low.same(b.high);
        }
        return a.n.same(b.n);
    }

    Val value(String atom, int at) throws Broken {
        if (Character.isDigit(atom.charAt(0))) {
            Num n = numOf(atom);
            return new Val(n, n, n);
        }
        if (!fresh.containsKey(atom)) {
            throw new Broken(6, at);
        }
        return fresh.get(atom);
    }

    OracleScale find(char letter, int at) throws Broken {
        for (OracleScale each : rules.get(inHand)) {
            boolean fits;
            switch (letter) {
                case 'D':
                    fits = each.body && each.fold == 1 && !each.turned;
                    break;
                case 'C':
                    fits = !each.body && each.fold == 1 && !each.turned;
                    break;
                case 'A':
                    fits = each.body && each.fold == 2 && !each.turned;
                    break;
                case 'K':
                    fits = each.body && each.fold == 3 && !each.turned;
                    break;
                default:
                    fits = !each.body && each.fold == 1 && each.turned;
            }
            if (fits) {
                return each;
            }
        }
        throw new Broken(2, at);
    }

    void setHair(int to, int doubt, int at) throws Broken {
        if (to < 0 || to > 4096) {
            throw new Broken(5, at);
        }
        h = to;
        v = doubt;
        hairCount++;
        doubts(at);
    }

    void setSlide(int to, int doubt, int at) throws Broken {
        if (to < -4096 || to > 4096) {
            throw new Broken(5, at);
        }
        s = to;
        u = doubt;
        slideCount++;
        doubts(at);
    }

    void doubts(int at) throws Broken {
        if (u > 999 || v > 999) {
            throw new Broken(4, at);
        }
    }

    int[][] lookIn(OracleScale scale, int at) throws Broken {
        int[][] got = lookAt(scale);
        if (got == null) {
            throw new Broken(5, at);
        }
        return got;
    }

    int[][] lookAt(OracleScale scale) {
        int x = scale.body ? h : h - s;
        return x < 0 || x > 4096 ? null : scale.see(x, eye + v + (scale.body ? 0 : u));
    }

    static Val placed(int[][] three, int base, int at) throws Broken {
        Num[] n = new Num[3];
        for (int i = 0; i < 3; i++) {
            n[i] = new Num(three[i][1], base + three[i][0]);
            if (n[i].e < -99 || n[i].e > 99) {
                throw new Broken(3, at);
            }
        }
        return new Val(n[0], n[1], n[2]);
    }

    Val doPower(int at) throws Broken {
        countStep(at);
        String w = toks.get(pos).s;
        if (!POWERS.contains(w)) {
            pos++;
            return value(w, at);
        }
        Val n = value(toks.get(pos + 1).s, at);
        pos += 2;
        String pair = w.equals("square") ? "DA" : w.equals("cube") ? "DK" : w.equals("root") ? "AD"
                : w.equals("third") ? "KD" : "CB";
        OracleScale from = find(pair.charAt(0), at);
        int to = from.cut(Math.floorMod(n.n.e, from.fold), n.n.m);
        setHair(from.body ? to : to + s, hand + n.loose(from.fold) + (from.body ? 0 : u), at);
        int[][] got = lookIn(find(pair.charAt(1), at), at);
        int e = n.n.e;
        int base = w.equals("square") ? 2 * e : w.equals("cube") ? 3 * e : w.equals("root") ? Math.floorDiv(e, 2)
                : w.equals("third") ? Math.floorDiv(e, 3) : -1 - e;
        return placed(got, base, at);
    }

    void doLet(boolean doing) throws Broken {
        int at = peek().at;
        if (!doing) {
            while (!peek().s.equals(";")) {
                pos++;
            }
            pos++;
            return;
        }
        countStep(at);
        String name = toks.get(pos + 1).s;
        pos += 3;
        List<Val> powers = new ArrayList<>();
        List<String> signs = new ArrayList<>();
        powers.add(doPower(at));
        while (!peek().s.equals(";")) {
            signs.add(peek().s);
            pos++;
            powers.add(doPower(at));
        }
        pos++;
        Val first = powers.get(0);
        setHair(find('D', at).cut(0, first.n.m), hand + first.loose(1), at);
        int e = first.n.e;
        for (int i = 1; i < powers.size(); i++) {
            Val b = powers.get(i);
            if (signs.get(i - 1).equals("*")) {
                if (i > 1 && signs.get(i - 2).equals("/")) {
                    e += s < 0 ? 1 : 0;
                } else {
                    setSlide(h, v + hand, at);
                }
                int c = find('C', at).cut(0, b.n.m);
                if (c + s > 4096) {
                    setSlide(s - 4096, u + hand, at);
                    e++;
                } else if (c + s < 0) {
                    setSlide(s + 4096, u + hand, at);
                    e--;
                }
                setHair(c + s, hand + u + b.loose(1), at);
                e += b.n.e;
            } else {
                int c = find('C', at).cut(0, b.n.m);
                setSlide(h - c, v + hand + b.loose(1), at);
                if (s < 0) {
                    e--;
                    setHair(s + 4096, u + hand, at);
                } else {
                    setHair(s, u + hand, at);
                }
                e -= b.n.e;
            }
        }
        fresh.put(name, placed(lookIn(find('D', at), at), e, at));
    }

    // ---- by hand

    int hair(int scale, int m, int e) {
        OracleScale c = scaleOf(inHand, scale);
        if (c == null || !number(m, e)) {
            return -1;
        }
        int to = c.cut(Math.floorMod(e, c.fold), m) + (c.body ? 0 : s);
        if (to < 0 || to > 4096) {
            return -1;
        }
        h = to;
        v = hand + (c.body ? 0 : u);
        return h;
    }

    int slideTo(int of) {
        if (h - of < -4096 || h - of > 4096) {
            return -5000;
        }
        s = h - of;
        u = v + hand;
        return s;
    }

    int slide(int scale, int m, int e) {
        OracleScale c = scaleOf(inHand, scale);
        return c == null || c.body || !number(m, e) ? -5000 : slideTo(c.cut(Math.floorMod(e, c.fold), m));
    }

    int look(int scale, int what) {
        OracleScale c = scaleOf(inHand, scale);
        int[][] got = c == null || what < 0 || what > 2 ? null : lookAt(c);
        return got == null ? -1 : 1000 * got[what][0] + got[what][1];
    }

    int valuePart(int name, int what) {
        for (Map.Entry<String, Integer> each : names.entrySet()) {
            if (each.getValue() == name && values.containsKey(each.getKey()) && what >= 0 && what <= 5) {
                Val x = values.get(each.getKey());
                Num n = what < 2 ? x.n : what < 4 ? x.low : x.high;
                return what % 2 == 0 ? n.m : n.e;
            }
        }
        return -1000;
    }

    // ---- products

    int[] bestOrder;
    int[] bestMoves;

    void orders() {
        bestOrder = null;
        bestMoves = null;
        tryOrders(new ArrayList<>());
    }

    void tryOrders(List<Integer> order) {
        if (order.size() < factors.size()) {
            for (int i = 0; i < factors.size(); i++) {
                if (!order.contains(i)) {
                    order.add(i);
                    tryOrders(order);
                    order.remove(order.size() - 1);
                }
            }
            return;
        }
        boolean times = false;
        for (int[] f : factors) {
            times |= f[2] == 0;
        }
        if (times && factors.get(order.get(0))[2] == 1) {
            return;
        }
        int hh = 0, ss = 0, e = 0, slides = 0, hairs = 0;
        boolean wasOver = false;
        for (int i = 0; i < order.size(); i++) {
            int[] f = factors.get(order.get(i));
            int c = units1(f[0]);
            if (i == 0 && times) {
                hh = c;
                e = f[1];
                hairs++;
            } else if (f[2] == 1) {
                ss = hh - c;
                slides++;
                e -= f[1];
                hh = ss;
                if (ss < 0) {
                    hh += 4096;
                    e--;
                }
                hairs++;
            } else {
                if (wasOver) {
                    e += ss < 0 ? 1 : 0;
                } else {
                    ss = hh;
                    slides++;
                }
                if (ss + c > 4096) {
                    ss -= 4096;
                    slides++;
                    e++;
                } else if (ss + c < 0) {
                    ss += 4096;
                    slides++;
                    e--;
                }
                hh = ss + c;
                hairs++;
                e += f[1];
            }
            wasOver = f[2] == 1;
        }
        if (bestMoves == null || slides < bestMoves[0] || slides == bestMoves[0] && hairs < bestMoves[1]) {
            bestMoves = new int[] {slides, hairs, e};
            bestOrder = order.stream().mapToInt(x -> x).toArray();
        }
    }

    int fewest(int what) {
        if (factors.isEmpty() || what < 0 || what > 2) {
            return -1000;
        }
        orders();
        return bestMoves[what];
    }

    int order(int i) {
        if (i < 0 || i >= factors.size()) {
            return -1;
        }
        orders();
        return bestOrder[i];
    }

    // ---- dividing and charts

    int step(int rule, int scale, int gap, int f, int j) {
        OracleScale c = scaleOf(rule, scale);
        if (c == null || gap < 1 || gap > 300 || f < 0 || f >= c.fold || j < 1 || j > 9) {
            return -1;
        }
        for (int step : new int[] {1, 2, 5, 10, 20, 50, 100}) {
            int nearest = 9999;
            for (int m = 100 * j; m < 100 * j + 100; m += step) {
                int n = m + step;
                int next = n == 1000 ? c.truth(f + 1, 100) : c.truth(f, n);
                nearest = Math.min(nearest, Math.abs(next - c.truth(f, m)));
            }
            if (nearest >= gap) {
                return step;
            }
        }
        return 100;
    }

    int marks(int rule, int scale, int gap) {
        OracleScale c = scaleOf(rule, scale);
        if (c == null || gap < 1 || gap > 300) {
            return -1;
        }
        Set<Integer> all = new HashSet<>();
        for (int f = 0; f < c.fold; f++) {
            for (int j = 1; j <= 9; j++) {
                int step = step(rule, scale, gap, f, j);
                for (int m = 100 * j; m <= 100 * j + 100; m += step) {
                    all.add(f * 900 + m);
                }
            }
        }
        return all.size();
    }

    int thread(int m, int e, int n, int f, int what) {
        if (!number(m, e) || !number(n, f) || what < 0 || what > 1) {
            return -1000;
        }
        int left = Math.floorDiv(new Num(m, e).reach(), chart[0]);
        int right = Math.floorDiv(new Num(n, f).reach(), chart[1]);
        int y = Math.floorDiv(left * (8 - chart[2]) + right * chart[2], 8) * chart[3];
        Num best = null;
        int around = Math.floorDiv(y, 4096);
        for (int p = around - 2; p <= around + 2; p++) {
            for (int d = 100; d <= 999; d++) {
                Num each = new Num(d, p);
                if (best == null || Math.abs(each.reach() - y) < Math.abs(best.reach() - y)) {
                    best = each;
                }
            }
        }
        return what == 0 ? best.m : best.e;
    }

    static int design(int i, int k) {
        if (i < 1 || i > 3 || k < 1 || k > 3) {
            return -1;
        }
        for (int all = 1111; all <= 3379; all++) {
            int a = all / 1000, b = all / 100 % 10, t = all / 10 % 10, c = all % 10;
            if (a >= 1 && a <= 3 && b >= 1 && b <= 3 && t >= 1 && t <= 7 && c >= 1
                    && c * (8 - t) == 8 * a * i && c * t == 8 * b * k) {
                return all;
            }
        }
        return -2;
    }

    // ---- the book

    int shown(int rule, int one, int f, int m, int other, int g, int n) {
        OracleScale a = scaleOf(rule, one), b = scaleOf(rule, other);
        if (facts.size() == 80 || a == null || b == null || one == other || !a.has(f, m) || !b.has(g, n)) {
            return -1;
        }
        Fact fact = new Fact();
        fact.rule = rule;
        fact.one = new int[] {one, f, m};
        fact.other = new int[] {other, g, n};
        facts.add(fact);
        return facts.size() - 1;
    }

    int strike(int which) {
        if (facts.size() == 80 || which < 0 || which >= facts.size() || facts.get(which).strikes >= 0) {
            return -1;
        }
        Fact fact = new Fact();
        fact.rule = -1;
        fact.strikes = which;
        facts.add(fact);
        return facts.size() - 1;
    }

    List<Integer> known(int rule, int n) {
        if (rule < 0 || rule >= rules.size() || n < 0 || n > facts.size()) {
            return null;
        }
        Set<Integer> off = new HashSet<>();
        for (Fact each : facts.subList(0, n)) {
            off.add(each.strikes);
        }
        List<Integer> left = new ArrayList<>();
        for (int i = 0; i < n; i++) {
            if (facts.get(i).strikes < 0 && facts.get(i).rule == rule && !off.contains(i)) {
                left.add(i);
            }
        }
        return left;
    }

    int guessed(int rule, int[] mark, int[] guess) {
        int t = scaleOf(rule, mark[0]).truth(mark[1], mark[2]);
        return t + (guess[0] == mark[0] && guess[1] == Math.min(15, t / 256) ? guess[2] : 0);
    }

    List<int[]> fitting(int rule, List<Integer> known) {
        List<int[]> all = new ArrayList<>();
        all.add(new int[] {-2, 0, 0});
        for (int scale = 0; scale < rules.get(rule).size(); scale++) {
            for (int t = 0; t < 16; t++) {
                for (int d = -20; d <= 20; d++) {
                    if (d != 0) {
                        all.add(new int[] {scale, t, d});
                    }
                }
            }
        }
        List<int[]> fits = new ArrayList<>();
        for (int[] guess : all) {
            boolean ok = true;
            for (int k : known) {
                Fact f = facts.get(k);
                ok &= Math.abs(guessed(rule, f.one, guess) - guessed(rule, f.other, guess)) <= hand + eye;
            }
            if (ok) {
                fits.add(guess);
            }
        }
        return fits;
    }

    int guesses(int rule, int n) {
        List<Integer> known = known(rule, n);
        return known == null ? -1 : fitting(rule, known).size();
    }

    int guess(int rule, int n, int i, int what) {
        List<Integer> known = known(rule, n);
        if (known == null || i < 0 || what < 0 || what > 2) {
            return -1000;
        }
        List<int[]> fits = fitting(rule, known);
        return i >= fits.size() ? -1000 : fits.get(i)[what];
    }

    int sure(int rule, int n) {
        List<Integer> known = known(rule, n);
        if (known == null) {
            return -1;
        }
        Set<Integer> scales = new HashSet<>();
        for (int[] each : fitting(rule, known)) {
            scales.add(each[0]);
        }
        return scales.size() == 1 ? scales.iterator().next() : -2;
    }

    int odd(int rule, int n) {
        List<Integer> known = known(rule, n);
        if (known == null || known.isEmpty()) {
            return -1;
        }
        int best = -1, most = -1;
        for (int k : known) {
            List<Integer> rest = new ArrayList<>(known);
            rest.remove((Integer) k);
            int fits = fitting(rule, rest).size();
            if (fits > most) {
                most = fits;
                best = k;
            }
        }
        return best;
    }
}
