/** Hulls and points that several tests use. */
final class Hulls {
    static final int MOST = 16383;
    static final int LEAST_INT = Integer.MIN_VALUE;
    static final int GREATEST_INT = Integer.MAX_VALUE;

    /** One step out on each axis, the ends of int, and numbers that wrap round to small ones. */
    static final int[][] OUT_OF_RANGE = {
        {MOST + 1, 0}, {-MOST - 1, 0}, {0, MOST + 1}, {0, -MOST - 1},
        {MOST + 1, MOST + 1}, {-MOST - 1, -MOST - 1}, {MOST, MOST + 1}, {-MOST - 1, -MOST},
        {GREATEST_INT, 0}, {LEAST_INT, 0}, {0, GREATEST_INT}, {0, LEAST_INT},
        {65536, 65536}, {65536 + 4, 4}, {4, -65536 + 4}, {LEAST_INT, LEAST_INT}, {LEAST_INT + 4, 4},
    };

    static final int[][] ENDS_OF_RANGE = {
        {MOST, 0}, {-MOST, 0}, {0, MOST}, {0, -MOST},
        {MOST, MOST}, {MOST, -MOST}, {-MOST, MOST}, {-MOST, -MOST},
    };

    private Hulls() { }

    static OnlineHull of(int cap, int... xy) {
        OnlineHull hull = new OnlineHull(cap);
        for (int i = 0; i + 1 < xy.length; i += 2) {
            hull.add(xy[i], xy[i + 1]);
        }
        return hull;
    }

    static OnlineHull square() {
        return of(20, 0, 0, 8, 0, 8, 8, 0, 8);
    }

    /** The square in a hull that may have four corners at most. */
    static OnlineHull fullSquare() {
        return of(1, 0, 0, 8, 0, 8, 8, 0, 8);
    }

    static OnlineHull widest() {
        return of(20, MOST, MOST, -MOST, MOST, MOST, -MOST, -MOST, -MOST);
    }

    /** As many corners as a hull can ever have: 64 points of a parabola, from (-32, 1024) to (31, 961). */
    static OnlineHull fullBowl() {
        OnlineHull hull = new OnlineHull(61);
        for (int i = -32; i < 32; i++) {
            hull.add(i, i * i);
        }
        return hull;
    }
}
