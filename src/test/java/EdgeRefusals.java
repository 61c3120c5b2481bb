import java.util.ArrayList;
import java.util.List;

/** What a refused call, or one that only asks, leaves as it was: all that an object answers behind it. */
final class EdgeRefusals {
    private static final int MIN = Integer.MIN_VALUE;
    private static final int MAX = Integer.MAX_VALUE;

    private final Due due;

    EdgeRefusals(Due due) {
        this.due = due;
    }

    void test() {
        some();
        full();
        asking();
        wildArguments();
        twoObjects();
    }

    /** A works with something of everything. */
    private static SlideWorks rich() {
        SlideWorks x = PromiseTest.full();
        x.rule();
        x.scale(1, false, 2, true);
        x.steps(3, 12);
        x.flaw(0, 0, 4, 2);
        x.flaw(0, 1, 15, -7);
        x.chart(1, 2, 3, 4);
        x.factor(200, 1, false);
        x.factor(300, 0, true);
        x.factor(800, 0, false);
        x.shown(0, 0, 0, 200, 1, 0, 202);
        x.shown(0, 0, 0, 500, 2, 1, 250);
        x.strike(1);
        Texts.read(x, "let a=2*3;if a<1 let b=2; end if 1<a let b=a/4; end");
        x.run();
        x.flaw(0, 1, 0, 20);
        Texts.read(x, "?");
        x.hair(0, 300, 0);
        x.slide(1, 200, 0);
        x.hair(1, 250, 0);
        Texts.feed(x, "let c=square 3;");
        return x;
    }

    /** A works where there is no room for anything more. */
    private static SlideWorks crowded() {
        SlideWorks x = PromiseTest.full();
        x.rule();
        x.rule();
        x.rule();
        for (int i = 5; i < 8; i++) {
            x.scale(0, true, i % 3 + 1, i == 6);
        }
        for (int i = 0; i < 7; i++) {
            x.factor(200 + 100 * i, i, i % 3 == 1);
        }
        for (int i = 0; i < 80; i++) {
            x.shown(0, i % 8, 0, 200 + i, (i + 1) % 8, 0, 200 + i);
        }
        for (int i = 0; i < 100; i++) {
            x.feed(0x6c657420, 0x613d323b, 0x20202020, 0x20202020, 0x20202020);
        }
        x.hair(0, 300, 0);
        x.slide(1, 200, 0);
        return x;
    }

    /** What an object answers, first to calls that only ask, then to some that move it on. */
    private static List<Integer> answers(SlideWorks x) {
        List<Integer> all = new ArrayList<>();
        asked(x, all);
        all.add(x.hair(1, 200, 0));
        all.add(x.state(4));
        all.add(x.index(true));
        all.add(x.state(3));
        all.add(x.run());
        all.add(x.broke());
        all.add(x.where());
        all.add(x.moves());
        all.add(x.value(1, 0));
        all.add(x.read());
        all.add(x.place());
        all.add(x.count(3));
        all.add(x.run());
        all.add(x.value(0, 0));
        all.add(x.rule());
        all.add(x.scale(0, true, 1, false));
        all.add(x.factor(500, 0, true));
        all.add(x.fewest(0));
        all.add(x.shown(0, 0, 0, 300, 1, 0, 301));
        all.add(x.strike(0));
        all.add(x.feed(1, 2, 3, 4, 5));
        all.add(x.clear());
        return all;
    }

    private static void asked(SlideWorks x, List<Integer> all) {
        for (int i = 0; i < 7; i++) {
            all.add(x.count(i));
            all.add(x.order(i));
        }
        for (int i = 0; i < 5; i++) {
            all.add(x.state(i));
        }
        all.add(x.place());
        all.add(x.broke());
        all.add(x.where());
        all.add(x.moves());
        for (int what = 0; what < 6; what++) {
            all.add(x.value(0, what));
            all.add(x.value(1, what));
        }
        for (int what = 0; what < 3; what++) {
            all.add(x.fewest(what));
            all.add(x.look(0, what));
            all.add(x.look(1, what));
            all.add(x.seen(0, 0, 1235, 14, what));
            all.add(x.guess(0, 2, 1, what));
        }
        for (int m = 100; m <= 900; m += 200) {
            all.add(x.cut(0, 0, 0, m));
            all.add(x.cut(0, 1, 0, m));
            all.add(x.cut(1, 0, 0, m));
            all.add(x.thread(m, 1, 345, -2, 0));
        }
        for (int n = 0; n <= 4; n++) {
            all.add(x.guesses(0, n));
            all.add(x.sure(0, n));
            all.add(x.odd(0, n));
        }
        all.add(x.step(0, 0, 20, 0, 1));
        all.add(x.marks(0, 0, 20));
        all.add(x.design(1, 2));
        all.add(x.units(345));
    }

    private void same(String behind, SlideWorks x, SlideWorks untouched) {
        List<Integer> got = answers(x);
        List<Integer> want = answers(untouched);
        for (int i = 0; i < want.size(); i++) {
            due.is("answer " + i + " behind " + behind, got.get(i), want.get(i));
        }
    }

    private void some() {
        due.promise("NONE (-5000, false), and nothing happens: no such ones");
        for (int kind = 0; kind < 12; kind++) {
            SlideWorks x = rich();
            for (int bad : new int[] {-1, MIN, MAX}) {
                refuse(x, kind, bad);
            }
            same("refusals of kind " + kind, x, rich());
        }
    }

    private void refuse(SlideWorks x, int kind, int bad) {
        switch (kind) {
            case 0:
                due.is("scale", x.scale(bad, true, 1, false), -1);
                due.is("scale of no fold", x.scale(0, true, bad, false), -1);
                due.is("scale of fold 0", x.scale(0, true, 0, false), -1);
                break;
            case 1:
                due.is("flaw of no rule", x.flaw(bad, 0, 4, 1), false);
                due.is("flaw of no scale", x.flaw(0, bad, 4, 1), false);
                due.is("flaw of no stretch", x.flaw(0, 0, bad, 1), false);
                due.is("flaw too great", x.flaw(0, 0, 4, bad == -1 ? 21 : bad), false);
                break;
            case 2:
                due.is("steps of no hand", x.steps(bad, 10), false);
                due.is("steps of no eye", x.steps(2, bad), false);
                break;
            case 3:
                due.is("take", x.take(bad), false);
                due.is("take 2", x.take(2), false);
                break;
            case 4:
                due.is("hair of no scale", x.hair(bad, 200, 0), -1);
                due.is("hair of no digits", x.hair(0, bad, 0), -1);
                due.is("hair of no place", x.hair(0, 200, bad == -1 ? 100 : bad), -1);
                due.is("hair that falls off", x.hair(1, 999, 0), -1);
                break;
            case 5:
                due.is("slide of no scale", x.slide(bad, 200, 0), -5000);
                due.is("slide of no digits", x.slide(1, bad, 0), -5000);
                due.is("slide of no place", x.slide(1, 200, bad == -1 ? -100 : bad), -5000);
                due.is("slide of the body", x.slide(0, 200, 0), -5000);
                break;
            case 6:
                due.is("factor of no digits", x.factor(bad, 0, false), -1);
                due.is("factor of no place", x.factor(200, bad == -1 ? 100 : bad, true), -1);
                break;
            case 7:
                due.is("chart", x.chart(bad, 1, 4, 2), false);
                due.is("chart", x.chart(1, bad, 4, 2), false);
                due.is("chart", x.chart(1, 1, bad, 2), false);
                due.is("chart", x.chart(1, 1, 4, bad), false);
                break;
            case 8:
                due.is("shown of no rule", x.shown(bad, 0, 0, 200, 1, 0, 200), -1);
                due.is("shown of no scale", x.shown(0, bad, 0, 200, 1, 0, 200), -1);
                due.is("shown of no other", x.shown(0, 0, 0, 200, bad, 0, 200), -1);
                due.is("shown of no mark", x.shown(0, 0, bad, 200, 1, 0, 200), -1);
                due.is("shown of one scale", x.shown(0, 1, 0, 200, 1, 0, 200), -1);
                break;
            case 9:
                due.is("strike of none", x.strike(bad), -1);
                due.is("strike of a strike", x.strike(2), -1);
                break;
            case 10:
                due.is("back", x.back(bad), -1);
                due.is("back of more", x.back(16), -1);
                break;
            default:
                due.is("scale of fold 4", x.scale(0, false, 4, true), -1);
                due.is("steps 21 10", x.steps(21, 10), false);
                due.is("steps 2 8", x.steps(2, 8), false);
                due.is("steps 2 41", x.steps(2, 41), false);
        }
    }

    private void full() {
        due.promise("NONE, and nothing happens: so many are there");
        SlideWorks x = crowded();
        for (int i = 0; i < 3; i++) {
            due.is("rule", x.rule(), -1);
            due.is("scale", x.scale(0, false, 1, i == 0), -1);
            due.is("factor", x.factor(200, 0, i == 0), -1);
            due.is("shown", x.shown(0, 0, 0, 200, 1, 0, 300), -1);
            due.is("strike", x.strike(i), -1);
            due.is("feed", x.feed(0, 0, 0, 0, 0), -1);
        }
        same("refusals for want of room", x, crowded());
    }

    private void asking() {
        due.promise("calls that ask change nothing");
        SlideWorks x = rich();
        asked(x, new ArrayList<>());
        asked(x, new ArrayList<>());
        same("asking", x, rich());
        x = crowded();
        asked(x, new ArrayList<>());
        same("asking", x, crowded());
    }

    /** Wild arguments of calls that ask: the answer for what is not there, and nothing changes. */
    private void wildArguments() {
        due.promise("no such ones, of calls that ask");
        SlideWorks x = rich();
        for (int bad : new int[] {-1, MIN, MAX, 1 << 30}) {
            due.is("units", x.units(bad), -1);
            due.is("cut of no rule", x.cut(bad, 0, 0, 200), -1000);
            due.is("cut of no scale", x.cut(0, bad, 0, 200), -1000);
            due.is("cut of no decade", x.cut(0, 0, bad, 200), -1000);
            due.is("cut of no digits", x.cut(0, 0, 0, bad), -1000);
            due.is("seen of no rule", x.seen(bad, 0, 0, 0, 0), -1);
            due.is("seen of no scale", x.seen(0, bad, 0, 0, 0), -1);
            due.is("seen of no x", x.seen(0, 0, bad, 0, 0), -1);
            due.is("seen of no q", x.seen(0, 0, 0, bad, 0), -1);
            due.is("seen of no what", x.seen(0, 0, 0, 0, bad), -1);
            due.is("look of no scale", x.look(bad, 0), -1);
            due.is("look of no what", x.look(0, bad), -1);
            due.is("state", x.state(bad), -5000);
            due.is("value of no name", x.value(bad, 0), -1000);
            due.is("value of no what", x.value(0, bad), -1000);
            due.is("fewest", x.fewest(bad), -1000);
            due.is("order", x.order(bad), -1);
            due.is("step of no gap", x.step(0, 0, bad, 0, 1), -1);
            due.is("step of no decade", x.step(0, 0, 5, bad, 1), -1);
            due.is("step of no part", x.step(0, 0, 5, 0, bad), -1);
            due.is("marks of no gap", x.marks(0, 0, bad), -1);
            due.is("thread of no left digits", x.thread(bad, 0, 200, 0, 0), -1000);
            due.is("thread of no left place", x.thread(200, bad == -1 ? 100 : bad, 200, 0, 0), -1000);
            due.is("thread of no right digits", x.thread(200, 0, bad, 0, 0), -1000);
            due.is("thread of no right place", x.thread(200, 0, 200, bad == -1 ? -100 : bad, 0), -1000);
            due.is("thread of no what", x.thread(200, 0, 200, 0, bad), -1000);
            due.is("design of no i", x.design(bad, 1), -1);
            due.is("design of no k", x.design(1, bad), -1);
            due.is("guesses of no rule", x.guesses(bad, 0), -1);
            due.is("guesses by none", x.guesses(0, bad), -1);
            due.is("guess of no i", x.guess(0, 0, bad, 0), -1000);
            due.is("guess of no what", x.guess(0, 0, 0, bad), -1000);
            due.is("sure of no rule", x.sure(bad, 0), -1);
            due.is("sure by none", x.sure(0, bad), -1);
            due.is("odd of no rule", x.odd(bad, 0), -1);
            due.is("odd by none", x.odd(0, bad), -1);
            due.is("count", x.count(bad), -1);
        }
        same("wild arguments", x, rich());
    }

    private void twoObjects() {
        due.promise("one object is nothing to another");
        SlideWorks x = rich();
        SlideWorks other = crowded();
        other.run();
        other.take(3);
        other.steps(20, 40);
        other.chart(3, 3, 3, 3);
        same("what another one did", x, rich());
        SlideWorks fresh = new SlideWorks();
        for (int i = 0; i < 5; i++) {
            due.is("count " + i + " of a new one", fresh.count(i), 0);
        }
        due.is("hand of a new one", fresh.count(5), 2);
        due.is("eye of a new one", fresh.count(6), 10);
        due.is("thread of a new one", fresh.thread(200, 0, 300, 0, 0), 600);
    }
}
