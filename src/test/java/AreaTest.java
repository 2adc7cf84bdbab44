/** Promises 6 and 15: which areas are simple, and which cells they cover. */
public final class AreaTest {
    public static void main(String[] args) {
        simpleAreas();
        areasThatAreNotSimple();
        coveredByDistance();
        coveredFromInside();
        coversIsAsked();
        Check.finish();
    }

    private static void simpleAreas() {
        simple("triangle", 0, 0, 10, 0, 0, 10);
        simple("triangle the other way round", 0, 0, 0, 10, 10, 0);
        simple("straight corner", 0, 0, 5, 0, 10, 0, 0, 10);
        simple("straight corner at the start", 5, 0, 10, 0, 0, 10, 0, 0);
        simple("dent", 0, 0, 10, 0, 10, 10, 5, 1, 0, 10);
        simple("sides on one line, apart", 0, 0, 3, 0, 3, 5, 6, 5, 6, 0, 9, 0, 9, 9, 0, 9);
        simple("greatest", -1000, -1000, 1000, -1000, 1000, 1000, -1000, 1000);
        simple("needle", -1000, -1000, 1000, 999, 1000, 1000);
    }

    private static void areasThatAreNotSimple() {
        notSimple("nothing");
        notSimple("a point", 0, 0);
        notSimple("two corners", 0, 0, 10, 0);
        notSimple("on a line", 0, 0, 10, 0, 20, 0);
        notSimple("on a line, back", 0, 0, 20, 0, 10, 0);
        notSimple("a corner twice", 0, 0, 10, 0, 0, 10, 0, 0);
        notSimple("a corner twice in a row", 0, 0, 10, 0, 10, 0, 0, 10);
        notSimple("a corner twice, as two triangles", 0, 0, 10, 10, 10, -10, 0, 0, -10, 10, -10, -10);
        notSimple("crossing", 0, 0, 10, 10, 10, 0, 0, 10);
        notSimple("folded back", 0, 0, 10, 0, 5, 0, 5, 10);
        notSimple("folded back beyond", 0, 0, 10, 0, -5, 0, -5, 10);
        notSimple("folded back on a falling slope", 0, 10, 10, 0, 4, 6, 8, 9);
        notSimple("folded back on a rising slope", 0, 0, 10, 10, 4, 4, 8, 1);
        notSimple("folded back upright", 0, 0, 0, 10, 0, 4, 8, 1);
        notSimple("folded at the first corner", 5, 0, 0, 10, -5, 5, 10, 0, 0, 0, 20, 0);
        notSimple("folded at the closing side", 10, 0, 10, 10, 5, 0, 0, 0);
        notSimple("a corner on another side", 0, 0, 10, 0, 10, 10, 5, 0, 0, 10);
        notSimple("a side that ends on an earlier one", 0, 0, 10, 0, 10, 10, 4, 10, 4, 0, 0, 5);
        notSimple("an earlier side that ends on a later one", 5, 0, 5, 5, -5, 5, -5, 0, 20, 0, 20, -9);
        notSimple("sides that lie on each other", 0, 0, 10, 0, 10, 5, 8, 0, 2, 0, 0, 5);
    }

    private static void simple(String what, int... corners) {
        AreaWarnings w = new AreaWarnings();
        Typing.corners(w, corners);
        w.text(0, 1);
        Check.equal(what, 0, w.issue(1, 1, 1, 2, 1));
    }

    private static void notSimple(String what, int... corners) {
        AreaWarnings w = new AreaWarnings();
        Typing.corners(w, corners);
        w.text(0, 1);
        Check.unsupported(what, () -> w.issue(1, 1, 1, 2, 1));
        Check.equal(what + " stays typed", corners.length / 2 + 1, w.clear());
    }

    private static void coveredByDistance() {
        int[] square = {0, 0, 100, 0, 100, 100, 0, 100};
        covered("touches a side", true, -7, 50, 7, square);
        covered("misses a side by one", false, -8, 50, 7, square);
        covered("touches a corner", true, -3, -4, 5, square);
        covered("misses a corner by one", false, -3, -5, 5, square);
        covered("beyond a side's end", false, 104, -4, 5, square);
        covered("on a side", true, 100, 33, 1, square);
        covered("on a corner", true, 100, 100, 1, square);
        int[] slope = {0, 0, 40, 30, 0, 30};
        covered("touches a slope", true, 23, 11, 5, slope);
        covered("misses a slope by little", false, 24, 11, 5, slope);
        int[] far = {-1000, -1000, 1000, 999, 1000, 1000};
        covered("far and thin", true, -999, 999, 1414, far);
        covered("far and thin, too far", false, -999, 999, 1412, far);
        covered("the greatest radius", true, 1000, 1000, 2000, -1000, 1000, -1000, -1000, -999, -1000);
        covered("closing side", true, -1, 10, 1, 0, 0, 20, 10, 0, 20);
    }

    private static void coveredFromInside() {
        int[] square = {-100, -100, 100, -100, 100, 100, -100, 100};
        covered("deep inside", true, 0, 0, 1, square);
        covered("inside, beside corners' heights", true, 0, 0, 1, -100, 0, 0, -100, 100, 0, 0, 100);
        int[] dent = {0, 0, 100, 0, 100, 100, 50, 10, 0, 100};
        covered("in the dent", false, 50, 80, 5, dent);
        covered("beside the dent", true, 10, 50, 1, dent);
        covered("below the dent", true, 50, 5, 1, dent);
        covered("left, at a corner's height", false, -50, 0, 1, dent);
        covered("right, at the dent's height", false, 150, 10, 1, dent);
        covered("left, at the dent's height", false, -50, 10, 1, dent);
        covered("above a point's height", true, 0, 0, 1, 20, 0, 0, 20, -20, 0, 0, -20);
        covered("beside a point's height", false, 30, 0, 1, 0, 20, -20, 0, 0, -20, 20, 0);
        covered("deep, the other way round", true, 0, 0, 1, -100, 100, 100, 100, 100, -100, -100, -100);
    }

    private static void covered(String what, boolean due, int x, int y, int radius, int... corners) {
        AreaWarnings w = new AreaWarnings();
        w.cell(x, y, radius);
        Typing.corners(w, corners);
        w.text(0, 1);
        Check.equal(what, due ? 1 : 0, w.issue(1, 1, 1, 2, 1));
        Check.equal(what + ", asked", due ? 1 : 0, w.covers(1, 0) ? 1 : 0);
        w.cell(x, y, radius);
        Check.equal(what + ", for a later cell", due ? 1 : 0, w.covers(1, 1) ? 1 : 0);
    }

    private static void coversIsAsked() {
        AreaWarnings w = new AreaWarnings();
        Check.bounds("no cell comes first", () -> w.covers(1, 0));
        w.cell(0, 0, 5);
        w.cell(500, 0, 5);
        Check.state("no warning", () -> w.covers(1, 0));
        Typing.near(w, 0, 0, "a");
        w.issue(1, 1, 1, 9, 1);
        Check.isTrue("covers 0", w.covers(1, 0));
        Check.isFalse("covers 1", w.covers(1, 1));
        Check.bounds("below", () -> w.covers(1, -1));
        Check.bounds("above", () -> w.covers(1, 2));
        Check.state("another id", () -> w.covers(2, 0));
        Typing.near(w, 500, 0, "b");
        w.update(1, 1, 9, 1);
        Check.isFalse("the newest counts, 0", w.covers(1, 0));
        Check.isTrue("the newest counts, 1", w.covers(1, 1));
        Typing.near(w, 0, 0, "c");
        w.issue(2, 1, 1, 3, 1);
        for (int n = 0; n < 4; n++) {
            w.minute();
        }
        Check.isTrue("an ended one covers", w.covers(2, 0));
        w.cancel(1);
        Check.state("a cancel", () -> w.covers(1, 1));
        Check.bounds("a cancel, no cell", () -> w.covers(1, 2));
    }
}
