/** Any int in each place, in hulls of every kind: the answers are SlowHull's, and the hull stays the same. */
public final class AnyIntTest {
    private static final int[] INTS = {
        Hulls.LEAST_INT, Hulls.LEAST_INT + 1, -65536, -32768, -16384, -16383, -16382, -64, -3, -2, -1,
        0, 1, 2, 3, 4, 5, 8, 62, 63, 64, 65, 16382, 16383, 16384, 32767, 65536, 65537,
        Hulls.GREATEST_INT - 1, Hulls.GREATEST_INT,
    };

    /** Without corners, one, two, three and four corners; the last two may be full. */
    private static final int[][] HULLS = {
        {},
        {3, 4},
        {0, 0, 4, 4},
        {-16383, 1, 16383, -1},
        {0, 0, 4, 1, 1, 4},
        {-16383, -16383, 16383, -16383, 16383, 16383, -16383, 16383},
        {-1, -1, 64, -1, 62, 63, 0, 63},
    };
    private static final int[] CAPS = {0, 1, 20};

    private static final Due due = new Due();

    public static void main(String[] args) {
        for (int[] points : HULLS) {
            for (int cap : CAPS) {
                anyIntInOnePlace(cap, points);
                for (int a : INTS) {
                    anyIntInTwoPlaces(cap, points, a);
                    anyIntInAdd(cap, points, a);
                }
                if (due.tooMany()) {
                    due.end();
                }
            }
        }
        due.end();
    }

    private static SlowHull slowOf(int cap, int[] points) {
        SlowHull slow = new SlowHull(cap);
        for (int i = 0; i < points.length; i += 2) {
            slow.add(points[i], points[i + 1]);
        }
        return slow;
    }

    private static void name(int cap, int[] points) {
        due.part("cap " + cap + ", points " + java.util.Arrays.toString(points));
    }

    private static void anyIntInOnePlace(int cap, int[] points) {
        name(cap, points);
        OnlineHull hull = Hulls.of(cap, points);
        SlowHull slow = slowOf(cap, points);
        for (int a : INTS) {
            due.is("xOf(" + a + ")", hull.xOf(a), slow.xOf(a));
            due.is("yOf(" + a + ")", hull.yOf(a), slow.yOf(a));
            due.is("tangent(5, 64, " + a + ")", hull.tangent(5, 64, a), slow.tangent(5, 64, a));
            due.is("tangent(-9, -9, " + a + ")", hull.tangent(-9, -9, a), slow.tangent(-9, -9, a));
        }
        same(hull, slow);
    }

    private static void anyIntInTwoPlaces(int cap, int[] points, int a) {
        name(cap, points);
        OnlineHull hull = Hulls.of(cap, points);
        SlowHull slow = slowOf(cap, points);
        for (int b : INTS) {
            String at = a + ", " + b;
            due.is("inside(" + at + ")", hull.inside(a, b), slow.inside(a, b));
            due.is("farthest(" + at + ")", hull.farthest(a, b), slow.farthest(a, b));
            for (int which = -1; which <= 2; which++) {
                due.is("tangent(" + at + ", " + which + ")", hull.tangent(a, b, which), slow.tangent(a, b, which));
            }
        }
        same(hull, slow);
    }

    private static void anyIntInAdd(int cap, int[] points, int a) {
        name(cap, points);
        for (int b : INTS) {
            OnlineHull hull = Hulls.of(cap, points);
            SlowHull slow = slowOf(cap, points);
            due.is("add(" + a + ", " + b + ")", hull.add(a, b), slow.add(a, b));
            same(hull, slow);
        }
    }

    private static void same(OnlineHull hull, SlowHull slow) {
        due.is("size()", hull.size(), slow.size());
        for (int i = -1; i <= slow.size(); i++) {
            due.is("xOf(" + i + ")", hull.xOf(i), slow.xOf(i));
            due.is("yOf(" + i + ")", hull.yOf(i), slow.yOf(i));
        }
        due.is("twiceArea()", hull.twiceArea(), slow.twiceArea());
        due.is("diameter()", hull.diameter(), slow.diameter());
        due.is("points()", hull.points(), slow.points());
    }
}
