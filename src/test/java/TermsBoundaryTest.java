/** The boundary cases that the document's Terms and promise 1 name, a method for each. */
public final class TermsBoundaryTest {
    private static final int MOST = Hulls.MOST;
    private static final Due due = new Due();

    public static void main(String[] args) {
        coordinatesGoToTheEnds();
        coordinatesGoNoFarther();
        noCorners();
        oneCorner();
        twoCornersWhenAllLieInALine();
        moreCornersOffTheLine();
        aPointBetweenTwoOthersIsNoCorner();
        aCornerThatComesToLieBetweenIsNone();
        theLeastXIsToldFirst();
        ofEqualXTheLeastYIsToldFirst();
        toldAgainstTheClock();
        theHullHasCapCornersAtMost();
        newObjectHasNoPoints();
        capFromNoneTo61();
        capPast61();
        capUnderNone();
        capAtTheEndsOfInt();
        due.end();
    }

    private static void coordinatesGoToTheEnds() {
        due.part("Terms, 'coordinates from -16383 to 16383': the ends");
        for (int[] p : Hulls.ENDS_OF_RANGE) {
            OnlineHull hull = new OnlineHull(20);
            due.is("add(" + p[0] + ", " + p[1] + ")", hull.add(p[0], p[1]), 1);
            due.corners(hull, p[0], p[1]);
            due.is("inside(" + p[0] + ", " + p[1] + ")", hull.inside(p[0], p[1]), 1);
        }
    }

    private static void coordinatesGoNoFarther() {
        due.part("Terms, 'coordinates from -16383 to 16383': past the ends");
        for (int[] p : Hulls.OUT_OF_RANGE) {
            OnlineHull hull = new OnlineHull(20);
            due.is("add(" + p[0] + ", " + p[1] + ")", hull.add(p[0], p[1]), OnlineHull.BAD);
            due.noPoints(hull);
        }
    }

    private static void noCorners() {
        due.part("Terms, 'none'");
        due.corners(new OnlineHull(0));
    }

    private static void oneCorner() {
        due.part("Terms, 'one'");
        due.corners(Hulls.of(0, 5, -7), 5, -7);
        due.corners(Hulls.of(0, 5, -7, 5, -7, 5, -7), 5, -7);
        due.corners(Hulls.of(0, 0, 0), 0, 0);
    }

    private static void twoCornersWhenAllLieInALine() {
        int[][] steps = {{1, 0}, {0, 1}, {1, 1}, {1, -1}, {2, 3}, {3, -2}, {4095, 1}, {-1, 4095}, {4095, -4095}};
        int[] order = {1, 2, -1, 0, 4, 3, -4, -2, -3};
        for (int[] step : steps) {
            due.part("Terms, 'two (when all lie in a line)', step " + step[0] + ", " + step[1]);
            OnlineHull hull = new OnlineHull(0);
            for (int times : order) {
                hull.add(times * step[0], times * step[1]);
            }
            int sign = step[0] < 0 ? -4 : 4;
            due.corners(hull, -sign * step[0], -sign * step[1], sign * step[0], sign * step[1]);
            due.is("points()", hull.points(), 9);
        }
    }

    private static void moreCornersOffTheLine() {
        due.part("Terms, 'or more': one step off a line, on either hand");
        due.corners(Hulls.of(0, -MOST, 0, MOST, 0, 0, 1), -MOST, 0, MOST, 0, 0, 1);
        due.corners(Hulls.of(0, -MOST, 0, MOST, 0, 0, -1), -MOST, 0, 0, -1, MOST, 0);
        due.corners(Hulls.of(0, -MOST, -MOST, MOST, MOST, 0, 1), -MOST, -MOST, MOST, MOST, 0, 1);
        due.corners(Hulls.of(0, 0, -MOST, 0, MOST, 1, 0), 0, -MOST, 1, 0, 0, MOST);
        due.corners(Hulls.of(0, 0, -MOST, 0, MOST, -1, 0), -1, 0, 0, -MOST, 0, MOST);
    }

    private static void aPointBetweenTwoOthersIsNoCorner() {
        due.part("Terms, 'that lie between no two others': points on sides");
        due.corners(Hulls.of(20, 0, 0, 8, 0, 8, 8, 0, 8, 4, 0, 8, 4, 4, 8, 0, 4), 0, 0, 8, 0, 8, 8, 0, 8);
        due.corners(Hulls.of(20, 4, 0, 8, 4, 4, 8, 0, 4, 0, 0, 8, 0, 8, 8, 0, 8), 0, 0, 8, 0, 8, 8, 0, 8);
    }

    private static void grown(int x, int y, int answer, int... corners) {
        OnlineHull hull = Hulls.fullSquare();
        due.is("add(" + x + ", " + y + ")", hull.add(x, y), answer);
        due.corners(hull, corners);
    }

    private static void aCornerThatComesToLieBetweenIsNone() {
        due.part("Terms, 'that lie between no two others': points on a side's line, past each end");
        grown(16, 0, 2, 0, 0, 16, 0, 8, 8, 0, 8);
        grown(-8, 0, 2, -8, 0, 8, 0, 8, 8, 0, 8);
        grown(8, 16, 2, 0, 0, 8, 0, 8, 16, 0, 8);
        grown(8, -8, 2, 0, 0, 8, -8, 8, 8, 0, 8);
        grown(-8, 8, 2, -8, 8, 0, 0, 8, 0, 8, 8);
        grown(16, 8, 2, 0, 0, 8, 0, 16, 8, 0, 8);
        grown(0, -8, 2, 0, -8, 8, 0, 8, 8, 0, 8);
        grown(0, 16, 2, 0, 0, 8, 0, 8, 8, 0, 16);
        OnlineHull slanted = Hulls.of(20, -8, 0, 16, 0, 8, 8, 0, 8);
        due.is("on the lines of two sides at once", slanted.add(4, 12), 3);
        due.corners(slanted, -8, 0, 16, 0, 4, 12);
    }

    private static void theLeastXIsToldFirst() {
        due.part("Terms, 'told from the one with the least x'");
        grown(-1, 4, OnlineHull.FULL, 0, 0, 8, 0, 8, 8, 0, 8);
        OnlineHull hull = Hulls.square();
        hull.add(-1, 4);
        due.corners(hull, -1, 4, 0, 0, 8, 0, 8, 8, 0, 8);
        hull.add(-2, 20);
        due.corners(hull, -2, 20, -1, 4, 0, 0, 8, 0, 8, 8);
        hull.add(-MOST, -MOST);
        due.corners(hull, -MOST, -MOST, 8, 0, 8, 8, -2, 20);
        hull.add(MOST, -MOST);
        due.corners(hull, -MOST, -MOST, MOST, -MOST, -2, 20);
    }

    private static void ofEqualXTheLeastYIsToldFirst() {
        due.part("Terms, '(of these the least y)'");
        due.corners(Hulls.of(20, 3, 9, 3, 1), 3, 1, 3, 9);
        due.corners(Hulls.of(20, 3, 1, 3, 9), 3, 1, 3, 9);
        due.corners(Hulls.of(20, 3, 9, 3, 1, 7, 2), 3, 1, 7, 2, 3, 9);
        due.corners(Hulls.of(20, 7, 2, 3, 1, 3, 9), 3, 1, 7, 2, 3, 9);
        due.corners(Hulls.of(20, 7, 2, 3, 9, 3, 1), 3, 1, 7, 2, 3, 9);
        due.corners(Hulls.of(20, 0, -5, 3, -MOST, 3, MOST, -MOST, MOST, -MOST, -MOST),
                -MOST, -MOST, 3, -MOST, 3, MOST, -MOST, MOST);
    }

    private static void toldAgainstTheClock() {
        due.part("Terms, 'against the hands of a clock': six corners in every order of coming");
        allOrders(new int[][] {{-2, 3}, {0, -3}, {5, -9}, {10, 0}, {10, 9}, {5, 10}}, 0);
    }

    private static void allOrders(int[][] points, int from) {
        if (from == points.length) {
            OnlineHull hull = new OnlineHull(3);
            for (int[] p : points) {
                due.is("add(" + p[0] + ", " + p[1] + ")", hull.add(p[0], p[1]), 1);
            }
            due.corners(hull, -2, 3, 0, -3, 5, -9, 10, 0, 10, 9, 5, 10);
            return;
        }
        for (int i = from; i < points.length; i++) {
            swap(points, from, i);
            allOrders(points, from + 1);
            swap(points, from, i);
        }
    }

    private static void swap(int[][] points, int i, int j) {
        int[] kept = points[i];
        points[i] = points[j];
        points[j] = kept;
    }

    private static void theHullHasCapCornersAtMost() {
        due.part("Terms, 'CAP corners at most'");
        due.corners(Hulls.of(0, 0, 0, 8, 0, 8, 8, 0, 8), 0, 0, 8, 0, 8, 8);
        due.corners(Hulls.of(1, 0, 0, 8, 0, 8, 8, 0, 8), 0, 0, 8, 0, 8, 8, 0, 8);
        OnlineHull bowl = Hulls.fullBowl();
        due.is("size()", bowl.size(), 64);
        due.is("a corner more", bowl.add(32, 1024), OnlineHull.FULL);
        due.is("size()", bowl.size(), 64);
        due.is("xOf(0)", bowl.xOf(0), -32);
        due.is("xOf(63)", bowl.xOf(63), 31);
    }

    private static void newObjectHasNoPoints() {
        for (int cap : new int[] {0, 20, 61, 62, -1, Hulls.LEAST_INT, Hulls.GREATEST_INT}) {
            due.part("promise 1, 'No points', cap " + cap);
            due.noPoints(new OnlineHull(cap));
        }
    }

    /** Points of a parabola are all corners, so as many of them come as CAP lets. */
    private static void capIs(int cap, int want) {
        OnlineHull hull = new OnlineHull(cap);
        for (int i = -40; i <= 40; i++) {
            int answer = i < want - 40 ? 1 : OnlineHull.FULL;
            due.is("cap " + cap + ", add(" + i + ", " + i * i + ")", hull.add(i, i * i), answer);
        }
        due.is("cap " + cap + ", size()", hull.size(), want);
        due.is("cap " + cap + ", points()", hull.points(), want);
    }

    private static void capFromNoneTo61() {
        due.part("promise 1, '3 more than cap modulo 62 (0 .. 61)'");
        for (int cap = 0; cap <= 61; cap++) {
            capIs(cap, 3 + cap);
        }
    }

    private static void capPast61() {
        due.part("promise 1, cap modulo 62 begins again at 62");
        capIs(62, 3);
        capIs(63, 4);
        capIs(123, 64);
        capIs(124, 3);
        capIs(6200, 3);
        capIs(6261, 64);
    }

    private static void capUnderNone() {
        due.part("promise 1, cap modulo 62 is 0 .. 61 for a negative cap too");
        for (int cap = -62; cap < 0; cap++) {
            capIs(cap, 3 + 62 + cap);
        }
        capIs(-63, 64);
        capIs(-124, 3);
    }

    private static void capAtTheEndsOfInt() {
        due.part("promise 1, the least and the greatest cap");
        capIs(Hulls.GREATEST_INT, 4);
        capIs(Hulls.GREATEST_INT - 1, 3);
        capIs(Hulls.GREATEST_INT - 2, 64);
        capIs(Hulls.LEAST_INT, 63);
        capIs(Hulls.LEAST_INT + 1, 64);
        capIs(Hulls.LEAST_INT + 2, 3);
    }
}
