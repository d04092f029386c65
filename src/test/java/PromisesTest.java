/** For each promise: ordinary inputs, the edges that the document names, wrong inputs. */
public final class PromisesTest {
    private static final int MOST = 16383;
    private static final int[][] OUT_OF_RANGE = {
        {MOST + 1, 0}, {-MOST - 1, 0}, {0, MOST + 1}, {0, -MOST - 1},
        {Integer.MAX_VALUE, 0}, {Integer.MIN_VALUE, 0}, {0, Integer.MAX_VALUE}, {0, Integer.MIN_VALUE},
        {65536, 65536}, {Integer.MIN_VALUE, Integer.MIN_VALUE},
    };

    private static final Due due = new Due();

    public static void main(String[] args) {
        promise1NewObject();
        promise1Cap();
        promise2Add();
        promise2AddInLine();
        promise2AddOnSideLines();
        promise2AddWrong();
        promise2AddFull();
        promises4And5Corners();
        promise6Inside();
        promise6InsideWithoutArea();
        promise7TwiceArea();
        promise8Farthest();
        promise9Tangent();
        promise9TangentNone();
        promise10Diameter();
        promise11Points();
        objectsAreApart();
        due.end();
    }

    private static OnlineHull hullOf(int cap, int... xy) {
        OnlineHull hull = new OnlineHull(cap);
        for (int i = 0; i + 1 < xy.length; i += 2) {
            hull.add(xy[i], xy[i + 1]);
        }
        return hull;
    }

    private static OnlineHull square() {
        return hullOf(20, 0, 0, 8, 0, 8, 8, 0, 8);
    }

    private static OnlineHull widest() {
        return hullOf(20, MOST, MOST, -MOST, MOST, MOST, -MOST, -MOST, -MOST);
    }

    /** Points of a parabola are all corners, so as many of them come as CAP lets. */
    private static int cornersThatFit(int cap) {
        OnlineHull hull = new OnlineHull(cap);
        int fit = 0;
        for (int i = -40; i <= 40; i++) {
            fit += hull.add(i, i * i) == 1 ? 1 : 0;
        }
        due.is("size() with cap " + cap, hull.size(), fit);
        due.is("points() with cap " + cap, hull.points(), fit);
        return fit;
    }

    private static void promise1NewObject() {
        due.part("promise 1, a new object");
        for (int cap : new int[] {0, 20, 61, -1, Integer.MIN_VALUE, Integer.MAX_VALUE}) {
            OnlineHull hull = new OnlineHull(cap);
            due.corners(hull);
            due.is("points()", hull.points(), 0);
            due.is("twiceArea()", hull.twiceArea(), 0);
            due.is("diameter()", hull.diameter(), 0);
            due.is("inside(0, 0)", hull.inside(0, 0), 0);
            due.is("farthest(0, 0)", hull.farthest(0, 0), -1);
            due.is("tangent(0, 0, 0)", hull.tangent(0, 0, 0), -1);
        }
    }

    private static void promise1Cap() {
        due.part("promise 1, CAP");
        for (int cap = 0; cap < 62; cap++) {
            due.is("corners that fit, cap " + cap, cornersThatFit(cap), cap + 3);
        }
        due.is("cap 62", cornersThatFit(62), 3);
        due.is("cap 63", cornersThatFit(63), 4);
        due.is("cap 6261", cornersThatFit(6261), 64);
        due.is("cap -1", cornersThatFit(-1), 64);
        due.is("cap -61", cornersThatFit(-61), 4);
        due.is("cap -62", cornersThatFit(-62), 3);
        due.is("cap -63", cornersThatFit(-63), 64);
        due.is("greatest cap", cornersThatFit(Integer.MAX_VALUE), 3 + Math.floorMod(Integer.MAX_VALUE, 62));
        due.is("least cap", cornersThatFit(Integer.MIN_VALUE), 3 + Math.floorMod(Integer.MIN_VALUE, 62));
    }

    private static void promise2Add() {
        due.part("promise 2, add");
        OnlineHull hull = new OnlineHull(20);
        due.is("the first point", hull.add(0, 0), 1);
        due.is("the same point", hull.add(0, 0), 0);
        due.is("a second corner", hull.add(8, 0), 1);
        due.is("a third corner", hull.add(8, 8), 1);
        due.is("a fourth corner", hull.add(0, 8), 1);
        due.is("a point inside", hull.add(3, 5), 0);
        due.is("a point on a side", hull.add(8, 3), 0);
        due.is("a corner", hull.add(8, 8), 0);
        due.is("a point that takes one corner", hull.add(9, 9), 2);
        due.corners(hull, 0, 0, 8, 0, 9, 9, 0, 8);
        due.is("a point that takes the first corner", hull.add(-1, -1), 2);
        due.corners(hull, -1, -1, 8, 0, 9, 9, 0, 8);
        due.is("a point far to the right", hull.add(2000, 1), 2);
        due.corners(hull, -1, -1, 2000, 1, 9, 9, 0, 8);
        due.is("a point that takes two corners", hull.add(-1000, 1000), 3);
        due.corners(hull, -1000, 1000, -1, -1, 2000, 1);
    }

    private static void promise2AddInLine() {
        due.part("promise 2, add in a line");
        OnlineHull hull = hullOf(0, 4, 4);
        due.is("before the only corner", hull.add(2, 2), 1);
        due.corners(hull, 2, 2, 4, 4);
        due.is("between both", hull.add(3, 3), 0);
        due.is("an end", hull.add(4, 4), 0);
        due.is("past the last", hull.add(9, 9), 2);
        due.corners(hull, 2, 2, 9, 9);
        due.is("before the first", hull.add(-5, -5), 2);
        due.corners(hull, -5, -5, 9, 9);
        due.is("on the right hand", hull.add(9, 0), 1);
        due.corners(hull, -5, -5, 9, 0, 9, 9);

        OnlineHull upright = hullOf(0, 3, 5);
        due.is("under the only corner", upright.add(3, -5), 1);
        due.corners(upright, 3, -5, 3, 5);
        due.is("over the last", upright.add(3, 6), 2);
        due.is("under the first", upright.add(3, -6), 2);
        due.is("between", upright.add(3, 0), 0);
        due.corners(upright, 3, -6, 3, 6);
        due.is("on the left hand", upright.add(0, 0), 1);
        due.corners(upright, 0, 0, 3, -6, 3, 6);
    }

    private static void promise2AddOnSideLines() {
        due.part("promise 2, add on the line of a side");
        OnlineHull hull = square();
        due.is("past the end of a side", hull.add(16, 0), 2);
        due.corners(hull, 0, 0, 16, 0, 8, 8, 0, 8);
        due.is("before the start of a side", hull.add(-8, 0), 2);
        due.corners(hull, -8, 0, 16, 0, 8, 8, 0, 8);
        due.is("on the lines of two sides at once", hull.add(4, 12), 3);
        due.corners(hull, -8, 0, 16, 0, 4, 12);
    }

    private static void promise2AddWrong() {
        due.part("promise 2, add out of range");
        OnlineHull hull = square();
        for (int[] p : OUT_OF_RANGE) {
            due.is("add(" + p[0] + ", " + p[1] + ")", hull.add(p[0], p[1]), OnlineHull.BAD);
        }
        due.corners(hull, 0, 0, 8, 0, 8, 8, 0, 8);
        due.is("points()", hull.points(), 4);
        due.is("the greatest", hull.add(MOST, MOST), 2);
        due.is("the least", hull.add(-MOST, -MOST), 2);
        due.corners(hull, -MOST, -MOST, 8, 0, MOST, MOST, 0, 8);
    }

    private static void promise2AddFull() {
        due.part("promise 2, FULL");
        OnlineHull hull = hullOf(1, 0, 0, 8, 0, 8, 8, 0, 8);
        due.is("a fifth corner", hull.add(9, 4), OnlineHull.FULL);
        due.is("again", hull.add(9, 4), OnlineHull.FULL);
        due.corners(hull, 0, 0, 8, 0, 8, 8, 0, 8);
        due.is("points()", hull.points(), 4);
        due.is("inside(9, 4)", hull.inside(9, 4), 0);
        due.is("out of range when full", hull.add(MOST + 1, 4), OnlineHull.BAD);
        due.is("inside when full", hull.add(4, 4), 0);
        due.is("on the border when full", hull.add(8, 4), 0);
        due.is("one comes, one goes", hull.add(9, 9), 2);
        due.corners(hull, 0, 0, 8, 0, 9, 9, 0, 8);
        due.is("points()", hull.points(), 7);
    }

    private static void promises4And5Corners() {
        due.part("promises 3 to 5, corners");
        OnlineHull hull = hullOf(20, 5, 10, 10, 9, 10, 0, 0, -3, -2, 3, 5, -9);
        due.corners(hull, -2, 3, 0, -3, 5, -9, 10, 0, 10, 9, 5, 10);
        for (int i : new int[] {6, 7, 22, 23, 64, -2, Integer.MAX_VALUE, Integer.MIN_VALUE}) {
            due.noCorner(hull, i);
        }
        due.part("promises 4 and 5, of equal x the least y is first");
        due.corners(hullOf(20, 3, 9, 3, 1, 7, 2), 3, 1, 7, 2, 3, 9);
        due.part("promises 4 and 5, rows that were used before");
        due.corners(hullOf(20, 1, 1, 3, 1, 4, 2, 3, 3, 1, 3, 100, -100, -100, -100, 0, 100),
                -100, -100, 100, -100, 0, 100);
    }

    private static void promise6Inside() {
        due.part("promise 6, inside");
        OnlineHull hull = square();
        due.is("the middle", hull.inside(4, 4), 2);
        due.is("near a corner", hull.inside(1, 7), 2);
        due.is("a side", hull.inside(8, 5), 1);
        due.is("another side", hull.inside(3, 0), 1);
        due.is("a corner", hull.inside(0, 8), 1);
        due.is("out of it", hull.inside(9, 4), 0);
        due.is("on a side's line", hull.inside(9, 8), 0);
        due.is("before a side's start", hull.inside(0, -1), 0);
        for (int[] p : OUT_OF_RANGE) {
            due.is("inside(" + p[0] + ", " + p[1] + ")", hull.inside(p[0], p[1]), 0);
        }
        OnlineHull widest = widest();
        due.is("the widest, middle", widest.inside(0, 0), 2);
        due.is("the widest, next to a corner", widest.inside(MOST - 1, -MOST + 1), 2);
        due.is("the widest, border", widest.inside(MOST, 5), 1);
        due.is("the widest, corner", widest.inside(-MOST, MOST), 1);
        for (int[] p : OUT_OF_RANGE) {
            due.is("widest inside(" + p[0] + ", " + p[1] + ")", widest.inside(p[0], p[1]), 0);
        }
        due.is("looking adds no point", hull.points(), 4);
    }

    private static void promise6InsideWithoutArea() {
        due.part("promise 6, a hull without area");
        OnlineHull one = hullOf(20, 3, 4);
        due.is("the point", one.inside(3, 4), 1);
        due.is("over it", one.inside(3, 5), 0);
        due.is("right of it", one.inside(4, 4), 0);
        due.is("left of it", one.inside(2, 4), 0);
        OnlineHull two = hullOf(20, 0, 0, 6, 4);
        due.is("first end", two.inside(0, 0), 1);
        due.is("last end", two.inside(6, 4), 1);
        due.is("between", two.inside(3, 2), 1);
        due.is("past the last", two.inside(9, 6), 0);
        due.is("before the first", two.inside(-3, -2), 0);
        due.is("beside", two.inside(3, 1), 0);
        due.is("beside, other hand", two.inside(3, 3), 0);
    }

    private static void promise7TwiceArea() {
        due.part("promise 7, twiceArea");
        due.is("one point", hullOf(20, 5, 5).twiceArea(), 0);
        due.is("two points", hullOf(20, 5, 5, 7, 9).twiceArea(), 0);
        due.is("three in a line", hullOf(20, 5, 5, 7, 9, 6, 7).twiceArea(), 0);
        due.is("a triangle", hullOf(20, 100, 100, 101, 100, 100, 101).twiceArea(), 1);
        due.is("a square", square().twiceArea(), 128);
        due.is("points inside add none", hullOf(20, 0, 0, 8, 0, 8, 8, 0, 8, 4, 4).twiceArea(), 128);
        due.is("six corners", hullOf(20, 5, 10, 10, 9, 10, 0, 0, -3, -2, 3, 5, -9).twiceArea(), 291);
        due.is("the widest", widest().twiceArea(), 2147221512);
    }

    private static void promise8Farthest() {
        due.part("promise 8, farthest");
        OnlineHull hull = hullOf(20, 0, 0, 8, 0, 8, 8, 0, 8);
        due.is("a corner alone", hull.farthest(1, 2), 2);
        due.is("down right", hull.farthest(3, -1), 1);
        due.is("up left", hull.farthest(-3, 1), 3);
        due.is("two equal, right", hull.farthest(1, 0), 1);
        due.is("two equal, up", hull.farthest(0, 1), 2);
        due.is("two equal, left", hull.farthest(-1, 0), 0);
        due.is("two equal, down", hull.farthest(0, -1), 0);
        due.is("no direction", hull.farthest(0, 0), 0);
        due.is("one corner", hullOf(20, -9, -9).farthest(1, 1), 0);
        due.is("a line", hullOf(20, -9, -9, 3, 3).farthest(1, 1), 1);
        due.is("a line, both equal", hullOf(20, -9, -9, 3, 3).farthest(1, -1), 0);
        due.is("without corners", new OnlineHull(20).farthest(1, 1), -1);
        for (int[] p : OUT_OF_RANGE) {
            due.is("farthest(" + p[0] + ", " + p[1] + ")", hull.farthest(p[0], p[1]), -1);
        }
        OnlineHull widest = widest();
        due.is("the widest, up right", widest.farthest(MOST, MOST), 2);
        due.is("the widest, down left", widest.farthest(-MOST, -MOST), 0);
        due.is("the widest, down right", widest.farthest(MOST, -MOST), 1);
        due.is("the widest, up left", widest.farthest(-MOST, MOST), 3);
    }

    private static void tangents(OnlineHull hull, int x, int y, int first, int last) {
        due.is("tangent(" + x + ", " + y + ", 0)", hull.tangent(x, y, 0), first);
        due.is("tangent(" + x + ", " + y + ", 1)", hull.tangent(x, y, 1), last);
    }

    private static void promise9Tangent() {
        due.part("promise 9, tangent");
        OnlineHull hull = square();
        tangents(hull, 4, -3, 0, 1);
        tangents(hull, 12, 4, 1, 2);
        tangents(hull, 4, 12, 2, 3);
        due.part("promise 9, going round past the last corner");
        tangents(hull, -4, 4, 3, 0);
        tangents(hull, -4, -4, 3, 1);
        tangents(hull, -4, 12, 2, 0);
        due.part("promise 9, a side whose line has the point is not on its right hand");
        tangents(hull, 12, 0, 1, 2);
        tangents(hull, 12, 8, 1, 2);
        tangents(hull, 0, -1, 0, 1);
        tangents(hull, 8, -1, 0, 1);
        due.part("promise 9, a triangle");
        OnlineHull triangle = hullOf(20, 0, 0, 9, 0, 0, 9);
        tangents(triangle, -1, -1, 2, 1);
        tangents(triangle, 20, -1, 0, 2);
        tangents(triangle, MOST, MOST, 1, 2);
        due.is("looking adds no point", hull.points(), 4);
    }

    private static void promise9TangentNone() {
        due.part("promise 9, no tangent");
        OnlineHull hull = square();
        tangents(hull, 4, 4, -1, -1);
        tangents(hull, 8, 4, -1, -1);
        tangents(hull, 8, 8, -1, -1);
        for (int which : new int[] {2, -1, 3, Integer.MAX_VALUE, Integer.MIN_VALUE}) {
            due.is("which " + which, hull.tangent(12, 4, which), -1);
        }
        for (int[] p : OUT_OF_RANGE) {
            tangents(hull, p[0], p[1], -1, -1);
        }
        tangents(new OnlineHull(20), 1, 1, -1, -1);
        tangents(hullOf(20, 0, 0), 1, 1, -1, -1);
        tangents(hullOf(20, 0, 0, 8, 0), 4, 4, -1, -1);
        tangents(hullOf(20, 0, 0, 8, 0), 4, -4, -1, -1);
    }

    private static void promise10Diameter() {
        due.part("promise 10, diameter");
        due.is("none", new OnlineHull(20).diameter(), 0);
        due.is("one", hullOf(20, 7, 7).diameter(), 0);
        due.is("one, twice", hullOf(20, 7, 7, 7, 7).diameter(), 0);
        due.is("two", hullOf(20, 1, 1, 4, 5).diameter(), 25);
        due.is("a square", square().diameter(), 128);
        due.is("neighbours", hullOf(20, 0, 0, 10, 0, 5, 1).diameter(), 100);
        due.is("last and first", hullOf(20, 0, 0, 5, -1, 3, 9).diameter(), 104);
        due.is("the widest", widest().diameter(), 2147221512);
    }

    private static void promise11Points() {
        due.part("promise 11, points");
        OnlineHull hull = square();
        due.is("corners", hull.points(), 4);
        hull.add(4, 4);
        due.is("one inside", hull.points(), 5);
        hull.add(8, 4);
        hull.add(8, 8);
        due.is("two on the border", hull.points(), 7);
        hull.add(MOST, MOST);
        due.is("one that takes a corner", hull.points(), 8);
        hull.add(MOST + 1, 0);
        due.is("one out of range", hull.points(), 8);
        OnlineHull full = hullOf(0, 0, 0, 8, 0, 8, 8, 0, 8);
        due.is("one too many", full.points(), 3);
        OnlineHull many = new OnlineHull(0);
        for (int i = 0; i < 511; i++) {
            many.add(0, 0);
        }
        due.is("as many as a run can have", many.points(), 511);
    }

    private static void objectsAreApart() {
        due.part("two objects share nothing");
        OnlineHull one = hullOf(20, 1, 2);
        OnlineHull other = hullOf(20, 5, 6, 7, 8);
        due.corners(one, 1, 2);
        due.corners(other, 5, 6, 7, 8);
    }
}
