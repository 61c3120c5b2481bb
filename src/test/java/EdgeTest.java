/**
 * The document's sentences that name a boundary, one behind another, each with a test of its own: what is just
 * inside, just outside, empty, full, what wraps around, and what a refused call leaves as it was.
 */
public final class EdgeTest {
    private EdgeTest() {
    }

    public static void main(String[] args) {
        Due due = new Due();
        new EdgeScales(due).test();
        new EdgeHand(due).test();
        new EdgeTexts(due).test();
        new EdgeRuns(due).test();
        new EdgeCharts(due).test();
        new EdgeBook(due).test();
        new EdgeRefusals(due).test();
        due.close();
    }

    /** UNITS by the logarithm itself, not by the document's twelve steps. */
    static int units(int m) {
        return (int) Math.floor(4096 * Math.log10(m / 100.0));
    }

    /** TRUE place of a MARK. */
    static int truth(int f, int m, int fold, boolean turned) {
        int place = (units(m) + 4096 * f) / fold;
        return turned ? 4096 - place : place;
    }
}
