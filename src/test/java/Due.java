/** Counts and prints the answers that are not the ones that are due. */
final class Due {
    private int wrong = 0;
    private String part = "";

    void part(String name) {
        part = name;
    }

    void is(String what, long got, long want) {
        if (got != want) {
            wrong++;
            System.out.println(part + ": " + what + " answered " + got + ", due is " + want);
        }
    }

    void holds(String what, boolean held) {
        is(what, held ? 1 : 0, 1);
    }

    /** The corners are exactly these, given as x and y in turn; around them there are none. */
    void corners(OnlineHull hull, int... xy) {
        int count = xy.length / 2;
        is("size()", hull.size(), count);
        for (int i = 0; i < count; i++) {
            is("xOf(" + i + ")", hull.xOf(i), xy[2 * i]);
            is("yOf(" + i + ")", hull.yOf(i), xy[2 * i + 1]);
        }
        noCorner(hull, count);
        noCorner(hull, -1);
    }

    void noCorner(OnlineHull hull, int i) {
        is("xOf(" + i + ")", hull.xOf(i), 0);
        is("yOf(" + i + ")", hull.yOf(i), 0);
    }

    void noPoints(OnlineHull hull) {
        corners(hull);
        is("points()", hull.points(), 0);
        is("twiceArea()", hull.twiceArea(), 0);
        is("diameter()", hull.diameter(), 0);
        is("inside(0, 0)", hull.inside(0, 0), 0);
        is("farthest(0, 0)", hull.farthest(0, 0), -1);
        tangents(hull, 0, 0, -1, -1);
    }

    /** Every answer is that of Hulls.square(), to which this many points came. */
    void square(OnlineHull hull, int points) {
        corners(hull, 0, 0, 8, 0, 8, 8, 0, 8);
        is("points()", hull.points(), points);
        is("twiceArea()", hull.twiceArea(), 128);
        is("diameter()", hull.diameter(), 128);
        is("inside(9, 4)", hull.inside(9, 4), 0);
        is("farthest(1, 0)", hull.farthest(1, 0), 1);
        tangents(hull, 9, 4, 1, 2);
    }

    void tangents(OnlineHull hull, int x, int y, int first, int last) {
        is("tangent(" + x + ", " + y + ", 0)", hull.tangent(x, y, 0), first);
        is("tangent(" + x + ", " + y + ", 1)", hull.tangent(x, y, 1), last);
    }

    boolean tooMany() {
        return wrong > 50;
    }

    void end() {
        System.out.println(wrong == 0 ? "all answers are as due" : wrong + " answers are not as due");
        if (wrong != 0) {
            System.exit(1);
        }
    }
}
