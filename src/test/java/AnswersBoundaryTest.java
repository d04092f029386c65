/** The boundary cases that promises 4 to 10 name, a method for each. */
public final class AnswersBoundaryTest {
    private static final int MOST = Hulls.MOST;
    private static final int GREATEST = 2147221512;
    private static final Due due = new Due();

    public static void main(String[] args) {
        noSuchCornerUnderNone();
        noSuchCornerPastTheLast();
        noSuchCornerWithoutCorners();
        noSuchCornerWhenCornersWent();
        insideIsTwo();
        borderIsOne();
        outsideIsZero();
        outOfRangeIsZero();
        nothingIsInsideWithoutCorners();
        onePointIsBorderAlone();
        lineIsBorderAlone();
        noAreaWithoutCorners();
        noAreaInALine();
        leastArea();
        greatestArea();
        ofEqualOnesTheFirst();
        ofAllEqualTheFirst();
        farthestWithoutCorners();
        farthestForAnotherDirection();
        farthestAtTheEnds();
        tangentGoingRound();
        tangentOnASidesLine();
        tangentOfAllSidesButOne();
        noTangentWhenNotOutside();
        noTangentOutOfRange();
        noTangentWithLessThanThreeCorners();
        noTangentForAnotherWhich();
        noDiameterWithLessThanTwo();
        leastDiameter();
        greatestDiameter();
        due.end();
    }

    private static void noCorners(OnlineHull hull, int... places) {
        for (int i : places) {
            due.noCorner(hull, i);
        }
    }

    private static void noSuchCornerUnderNone() {
        due.part("promises 4 and 5, '0 when there is none such': negative");
        noCorners(Hulls.widest(), -1, -2, -4, -62, -64, Hulls.LEAST_INT, Hulls.LEAST_INT + 1);
        noCorners(Hulls.fullBowl(), -1, -2, -64, Hulls.LEAST_INT, Hulls.LEAST_INT + 1);
    }

    private static void noSuchCornerPastTheLast() {
        due.part("promises 4 and 5, '0 when there is none such': from the number of corners on");
        noCorners(Hulls.of(20, 7, 9), 1, 2, 3);
        noCorners(Hulls.of(20, 7, 9, 3, 4), 2, 3);
        noCorners(Hulls.of(0, 7, 9, 3, 4, 1, 8), 3, 4);
        noCorners(Hulls.widest(), 4, 5, 22, 23, 64, 65536, Hulls.GREATEST_INT, Hulls.GREATEST_INT - 1);
        noCorners(Hulls.fullBowl(), 64, 65, 128, Hulls.GREATEST_INT);
        due.is("the last that there is, x", Hulls.fullBowl().xOf(63), 31);
        due.is("the last that there is, y", Hulls.fullBowl().yOf(63), 961);
    }

    private static void noSuchCornerWithoutCorners() {
        due.part("promises 4 and 5, '0 when there is none such': without corners");
        noCorners(new OnlineHull(20), 0, 1, -1, Hulls.LEAST_INT, Hulls.GREATEST_INT);
        noCorners(Hulls.of(20, MOST + 1, 5), 0);
    }

    private static void noSuchCornerWhenCornersWent() {
        due.part("promises 4 and 5, '0 when there is none such': a place that had a corner before");
        OnlineHull bowl = Hulls.fullBowl();
        bowl.add(0, -MOST);
        for (int i = 3; i < 70; i++) {
            due.noCorner(bowl, i);
        }
    }

    private static void places(OnlineHull hull, int want, int... xy) {
        for (int i = 0; i < xy.length; i += 2) {
            due.is("inside(" + xy[i] + ", " + xy[i + 1] + ")", hull.inside(xy[i], xy[i + 1]), want);
        }
    }

    private static void insideIsTwo() {
        due.part("promise 6, '2 inside'");
        places(Hulls.square(), 2, 4, 4, 1, 1, 7, 1, 7, 7, 1, 7);
        places(Hulls.widest(), 2, 0, 0, MOST - 1, MOST - 1, 1 - MOST, 1 - MOST, MOST - 1, 1 - MOST);
        places(Hulls.of(0, 0, 0, 3, 0, 0, 3), 2, 1, 1);
        places(Hulls.of(0, -MOST, 0, MOST, -1, MOST, 1), 2, 1 - MOST, 0, 0, 0, MOST - 1, 0);
    }

    private static void borderIsOne() {
        due.part("promise 6, '1 on the border': every side and every corner");
        places(Hulls.square(), 1, 0, 0, 4, 0, 8, 0, 8, 4, 8, 8, 4, 8, 0, 8, 0, 4, 1, 0, 0, 1, 0, 7);
        places(Hulls.widest(), 1, MOST, 0, -MOST, 0, 0, MOST, 0, -MOST, MOST, MOST, -MOST, MOST, MOST, -MOST);
        places(Hulls.of(0, -MOST, -MOST, MOST, MOST, -MOST, MOST), 1, 0, 0, 1 - MOST, 1 - MOST, 0, MOST);
    }

    private static void outsideIsZero() {
        due.part("promise 6, '0 outside': beside each side, and on its line past its ends");
        places(Hulls.square(), 0, 4, -1, 9, 4, 4, 9, -1, 4);
        places(Hulls.square(), 0, 9, 0, -1, 0, 8, 9, 8, -1, -1, 8, 9, 8, 0, -1, 0, 9);
        places(Hulls.square(), 0, MOST, MOST, -MOST, -MOST, MOST, -MOST, -MOST, MOST);
        places(Hulls.of(0, -MOST, -MOST, MOST, MOST, -MOST, MOST), 0, 1, 0, MOST, -MOST, MOST, MOST - 1);
    }

    private static void outOfRangeIsZero() {
        due.part("promise 6, '(also out of range)'");
        for (int[] p : Hulls.OUT_OF_RANGE) {
            places(Hulls.widest(), 0, p[0], p[1]);
            places(Hulls.square(), 0, p[0], p[1]);
            places(Hulls.of(20, -MOST, 0, MOST, 0), 0, p[0], p[1]);
            places(Hulls.of(20, 0, 0), 0, p[0], p[1]);
            places(new OnlineHull(20), 0, p[0], p[1]);
        }
    }

    private static void nothingIsInsideWithoutCorners() {
        due.part("promise 6, without corners all is outside");
        places(new OnlineHull(20), 0, 0, 0, 1, 1, MOST, MOST, -MOST, -MOST);
    }

    private static void onePointIsBorderAlone() {
        due.part("promise 6, '(A hull without area is border alone.)': one point");
        OnlineHull one = Hulls.of(20, 3, 4);
        places(one, 1, 3, 4);
        places(one, 0, 3, 5, 3, 3, 4, 4, 2, 4, 4, 5, 2, 3, 0, 0);
    }

    private static void lineIsBorderAlone() {
        due.part("promise 6, '(A hull without area is border alone.)': a line");
        OnlineHull slanted = Hulls.of(20, 0, 0, 6, 4, 3, 2);
        places(slanted, 1, 0, 0, 3, 2, 6, 4);
        places(slanted, 0, 9, 6, -3, -2, 3, 1, 3, 3, 1, 1);
        OnlineHull upright = Hulls.of(20, 5, -2, 5, 2);
        places(upright, 1, 5, -2, 5, -1, 5, 0, 5, 2);
        places(upright, 0, 5, 3, 5, -3, 4, 0, 6, 0);
        OnlineHull flat = Hulls.of(20, -2, 5, 2, 5);
        places(flat, 1, -2, 5, 0, 5, 2, 5);
        places(flat, 0, 3, 5, -3, 5, 0, 4, 0, 6);
        OnlineHull widest = Hulls.of(20, -MOST, MOST, MOST, -MOST);
        places(widest, 1, 0, 0, -MOST, MOST, MOST, -MOST, MOST - 1, 1 - MOST);
        places(widest, 0, 1, 0, 0, 1, MOST, MOST, -MOST, -MOST);
    }

    private static void noAreaWithoutCorners() {
        due.part("promise 7, without corners or with one");
        due.is("none", new OnlineHull(20).twiceArea(), 0);
        due.is("one", Hulls.of(20, MOST, -MOST).twiceArea(), 0);
        due.is("one, many times", Hulls.of(20, 5, 5, 5, 5, 5, 5).twiceArea(), 0);
    }

    private static void noAreaInALine() {
        due.part("promise 7, a line");
        due.is("two points", Hulls.of(20, 5, 5, 7, 9).twiceArea(), 0);
        due.is("three points", Hulls.of(20, 5, 5, 7, 9, 6, 7).twiceArea(), 0);
        due.is("the longest", Hulls.of(20, -MOST, MOST, MOST, -MOST, 0, 0).twiceArea(), 0);
        due.is("upright", Hulls.of(20, MOST, MOST, MOST, -MOST).twiceArea(), 0);
    }

    private static void leastArea() {
        due.part("promise 7, the least area");
        due.is("far up right", Hulls.of(0, MOST, MOST, MOST - 1, MOST, MOST, MOST - 1).twiceArea(), 1);
        due.is("far down left", Hulls.of(0, -MOST, -MOST, 1 - MOST, -MOST, -MOST, 1 - MOST).twiceArea(), 1);
        due.is("long and thin", Hulls.of(0, -MOST, -MOST, MOST, MOST, MOST - 1, MOST).twiceArea(), 2 * MOST);
    }

    private static void greatestArea() {
        due.part("promise 7, the greatest area");
        due.is("twiceArea()", Hulls.widest().twiceArea(), GREATEST);
        OnlineHull nearly = Hulls.of(20, 1 - MOST, -MOST, MOST, -MOST, MOST, MOST, -MOST, MOST, -MOST, 1 - MOST);
        due.is("one little corner less", nearly.twiceArea(), GREATEST - 1);
        due.is("half of it", Hulls.of(0, -MOST, -MOST, MOST, -MOST, MOST, MOST).twiceArea(), GREATEST / 2);
    }

    private static void ofEqualOnesTheFirst() {
        due.part("promise 8, 'of two equal ones the one that is told first'");
        OnlineHull hull = Hulls.square();
        due.is("right", hull.farthest(1, 0), 1);
        due.is("up", hull.farthest(0, 1), 2);
        due.is("left, the first and the last", hull.farthest(-1, 0), 0);
        due.is("down", hull.farthest(0, -1), 0);
        OnlineHull hexagon = Hulls.of(20, 0, 4, 2, 0, 6, 0, 8, 4, 6, 8, 2, 8);
        due.is("down, 1 and 2", hexagon.farthest(0, -5), 1);
        due.is("down right, 2 and 3", hexagon.farthest(2, -1), 2);
        due.is("up right, 3 and 4", hexagon.farthest(2, 1), 3);
        due.is("up, 4 and 5", hexagon.farthest(0, 5), 4);
        due.is("up left, 5 and 0", hexagon.farthest(-2, 1), 0);
        due.is("across a line", Hulls.of(20, 3, 3, -9, -9).farthest(1, -1), 0);
        due.is("equal at the ends", Hulls.widest().farthest(MOST, 0), 1);
    }

    private static void ofAllEqualTheFirst() {
        due.part("promise 8, direction (0, 0): all are equal");
        due.is("one", Hulls.of(20, 5, 5).farthest(0, 0), 0);
        due.is("two", Hulls.of(20, 5, 5, -3, 0).farthest(0, 0), 0);
        due.is("four", Hulls.widest().farthest(0, 0), 0);
        due.is("none", new OnlineHull(20).farthest(0, 0), -1);
    }

    private static void farthestWithoutCorners() {
        due.part("promise 8, '-1 without corners'");
        due.is("farthest(1, 1)", new OnlineHull(20).farthest(1, 1), -1);
        due.is("farthest(-16383, 0)", new OnlineHull(20).farthest(-MOST, 0), -1);
        due.is("after a refused point", Hulls.of(20, MOST + 1, 0).farthest(1, 1), -1);
        due.is("with one", Hulls.of(20, -4, -4).farthest(1, 1), 0);
    }

    private static void farthestForAnotherDirection() {
        due.part("promise 8, '-1 .. for another direction'");
        for (int[] p : Hulls.OUT_OF_RANGE) {
            String call = "farthest(" + p[0] + ", " + p[1] + ")";
            due.is(call, Hulls.square().farthest(p[0], p[1]), -1);
            due.is(call + " of one", Hulls.of(20, 0, 0).farthest(p[0], p[1]), -1);
            due.is(call + " of none", new OnlineHull(20).farthest(p[0], p[1]), -1);
        }
    }

    private static void farthestAtTheEnds() {
        due.part("promise 8, directions and corners at the ends of the range");
        OnlineHull widest = Hulls.widest();
        due.is("down left", widest.farthest(-MOST, -MOST), 0);
        due.is("down right", widest.farthest(MOST, -MOST), 1);
        due.is("up right", widest.farthest(MOST, MOST), 2);
        due.is("up left", widest.farthest(-MOST, MOST), 3);
        OnlineHull near = Hulls.of(20, -MOST, -MOST, MOST, MOST, MOST - 1, MOST);
        due.is("one step apart", near.farthest(MOST, MOST), 1);
        due.is("the other one", near.farthest(-1, MOST), 2);
    }

    private static void tangentGoingRound() {
        OnlineHull hull = Hulls.square();
        due.part("promise 9, '(going round)': a run that begins at the corner told first");
        due.tangents(hull, 4, -3, 0, 1);
        due.tangents(hull, 12, -4, 0, 2);
        due.part("promise 9, '(going round)': a run that ends at the corner told first");
        due.tangents(hull, -4, 4, 3, 0);
        due.tangents(hull, -4, 12, 2, 0);
        due.part("promise 9, '(going round)': a run that goes over the corner told first");
        due.tangents(hull, -4, -4, 3, 1);
        OnlineHull hexagon = Hulls.of(20, 0, 4, 2, 0, 6, 0, 8, 4, 6, 8, 2, 8);
        due.tangents(hexagon, -MOST, 4, 5, 1);
        due.tangents(hexagon, -1, -MOST, 0, 3);
        due.tangents(hexagon, -100, -100, 5, 2);
        due.tangents(hexagon, -100, 108, 4, 1);
        due.part("promise 9, '(going round)': a run far from the corner told first");
        due.tangents(hull, 12, 4, 1, 2);
        due.tangents(hull, 12, 12, 1, 3);
    }

    private static void tangentOnASidesLine() {
        due.part("promise 9, a side whose line has the point has it on no hand");
        OnlineHull hull = Hulls.square();
        due.tangents(hull, 12, 0, 1, 2);
        due.tangents(hull, -4, 0, 3, 0);
        due.tangents(hull, 8, 12, 2, 3);
        due.tangents(hull, 8, -4, 0, 1);
        due.tangents(hull, -4, 8, 3, 0);
        due.tangents(hull, 12, 8, 1, 2);
        due.tangents(hull, 0, -4, 0, 1);
        due.tangents(hull, 0, 12, 2, 3);
    }

    private static void tangentOfAllSidesButOne() {
        due.part("promise 9, a point that has all sides but one on their right hand");
        due.tangents(Hulls.of(20, 0, 0, 9, 0, 0, 9), -1, -1, 2, 1);
        due.tangents(Hulls.of(20, 0, 0, 9, 0, 0, 9), 20, -1, 0, 2);
        due.tangents(Hulls.of(20, 0, 0, 9, 0, 0, 9), -1, 20, 1, 0);
        due.tangents(Hulls.fullBowl(), 0, -MOST, 0, 63);
        due.tangents(Hulls.fullBowl(), 0, MOST, 63, 0);
    }

    private static void noTangentWhenNotOutside() {
        due.part("promise 9, '-1 when it is not outside'");
        OnlineHull hull = Hulls.square();
        int[][] within = {{4, 4}, {1, 7}, {4, 0}, {8, 4}, {4, 8}, {0, 4}, {0, 0}, {8, 0}, {8, 8}, {0, 8}};
        for (int[] p : within) {
            due.tangents(hull, p[0], p[1], -1, -1);
        }
        for (int[] p : Hulls.ENDS_OF_RANGE) {
            due.tangents(Hulls.widest(), p[0], p[1], -1, -1);
            due.holds("outside of the square", hull.tangent(p[0], p[1], 0) >= 0);
        }
    }

    private static void noTangentOutOfRange() {
        due.part("promise 9, '-1 .. out of range'");
        for (int[] p : Hulls.OUT_OF_RANGE) {
            due.tangents(Hulls.square(), p[0], p[1], -1, -1);
            due.tangents(Hulls.widest(), p[0], p[1], -1, -1);
        }
    }

    private static void noTangentWithLessThanThreeCorners() {
        due.part("promise 9, '-1 .. there are less than three corners'");
        due.tangents(new OnlineHull(20), 1, 1, -1, -1);
        due.tangents(Hulls.of(20, 0, 0), 1, 1, -1, -1);
        OnlineHull line = Hulls.of(20, 0, 0, 8, 0, 4, 0);
        due.tangents(line, 4, 4, -1, -1);
        due.tangents(line, 4, -4, -1, -1);
        due.tangents(line, 9, 0, -1, -1);
        line.add(4, 1);
        due.tangents(line, 4, -4, 0, 1);
    }

    private static void noTangentForAnotherWhich() {
        due.part("promise 9, '-1 .. or another which'");
        int[] others = {2, -1, 3, -2, 256, 65536, 65537, Hulls.GREATEST_INT, Hulls.LEAST_INT, Hulls.LEAST_INT + 1};
        for (int which : others) {
            due.is("tangent(12, 4, " + which + ")", Hulls.square().tangent(12, 4, which), -1);
            due.is("tangent(-4, -4, " + which + ")", Hulls.square().tangent(-4, -4, which), -1);
            due.is("tangent(4, 4, " + which + ")", Hulls.square().tangent(4, 4, which), -1);
        }
    }

    private static void noDiameterWithLessThanTwo() {
        due.part("promise 10, '0 when there are less than two'");
        due.is("none", new OnlineHull(20).diameter(), 0);
        due.is("none after a refused point", Hulls.of(20, 0, MOST + 1).diameter(), 0);
        due.is("one", Hulls.of(20, 7, 7).diameter(), 0);
        due.is("one at the end", Hulls.of(20, -MOST, MOST).diameter(), 0);
        due.is("one, twice", Hulls.of(20, 7, 7, 7, 7).diameter(), 0);
    }

    private static void leastDiameter() {
        due.part("promise 10, two corners next to each other");
        due.is("flat", Hulls.of(20, MOST, 7, MOST - 1, 7).diameter(), 1);
        due.is("upright", Hulls.of(20, 7, -MOST, 7, 1 - MOST).diameter(), 1);
        due.is("slanted", Hulls.of(20, 7, 7, 8, 6).diameter(), 2);
    }

    private static void greatestDiameter() {
        due.part("promise 10, the greatest distance");
        due.is("of two", Hulls.of(20, -MOST, -MOST, MOST, MOST).diameter(), GREATEST);
        due.is("of two, falling", Hulls.of(20, -MOST, MOST, MOST, -MOST).diameter(), GREATEST);
        due.is("of four", Hulls.widest().diameter(), GREATEST);
        due.is("flat", Hulls.of(20, -MOST, 0, MOST, 0).diameter(), GREATEST / 2);
        due.is("upright", Hulls.of(20, 0, -MOST, 0, MOST).diameter(), GREATEST / 2);
        due.is("the first and the last", Hulls.of(20, 0, 0, 5, -1, 3, 9).diameter(), 104);
        due.is("of 64 corners", Hulls.fullBowl().diameter(), 1049600);
    }
}
