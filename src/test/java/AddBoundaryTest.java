/** The boundary cases that promises 2, 3 and 11 (add, size, points) name, a method for each. */
public final class AddBoundaryTest {
    private static final int MOST = Hulls.MOST;
    private static final int BAD = OnlineHull.BAD;
    private static final int FULL = OnlineHull.FULL;
    private static final Due due = new Due();

    public static void main(String[] args) {
        zeroInTheHull();
        zeroOnTheBorder();
        zeroInAHullWithoutArea();
        oneWhenNoCornerGoes();
        oneMoreForEachCornerGone();
        oneMoreForAnEndOfALine();
        asManyGoneAsCanBe();
        badOutOfRange();
        badInEveryState();
        badBeforeFull();
        fullWithOneCornerTooMany();
        fullPointDoesNotCome();
        fullNeverForAPointInTheHull();
        fullNotWhenACornerGoes();
        fullPointMayComeLater();
        sizeWithoutCorners();
        sizeAfterRefusedCalls();
        sizeGoesDownToo();
        pointsInTheHullAreCounted();
        pointsThatDidNotComeAreNot();
        pointsOfALongRun();
        lookingChangesNothing();
        due.end();
    }

    private static void adds(OnlineHull hull, int x, int y, int want) {
        due.is("add(" + x + ", " + y + ")", hull.add(x, y), want);
    }

    private static void zeroInTheHull() {
        due.part("promise 2, '0 when it lies in the hull'");
        OnlineHull hull = Hulls.square();
        adds(hull, 4, 4, 0);
        adds(hull, 1, 1, 0);
        adds(hull, 7, 7, 0);
        adds(hull, 4, 4, 0);
        due.square(hull, 8);
        adds(Hulls.widest(), 0, 0, 0);
        adds(Hulls.widest(), MOST - 1, 1 - MOST, 0);
    }

    private static void zeroOnTheBorder() {
        due.part("promise 2, '(its border is part of it)'");
        OnlineHull hull = Hulls.square();
        for (int i = 0; i < 8; i++) {
            adds(hull, i, 0, 0);
            adds(hull, 8, i, 0);
            adds(hull, 8 - i, 8, 0);
            adds(hull, 0, 8 - i, 0);
        }
        due.square(hull, 36);
        for (int[] p : Hulls.ENDS_OF_RANGE) {
            adds(Hulls.widest(), p[0], p[1], 0);
        }
    }

    private static void zeroInAHullWithoutArea() {
        due.part("promise 2, 0 on a hull of one or two corners");
        OnlineHull hull = new OnlineHull(0);
        adds(hull, 3, 4, 1);
        adds(hull, 3, 4, 0);
        adds(hull, 9, 8, 1);
        adds(hull, 3, 4, 0);
        adds(hull, 9, 8, 0);
        adds(hull, 6, 6, 0);
        due.corners(hull, 3, 4, 9, 8);
    }

    private static void oneWhenNoCornerGoes() {
        due.part("promise 2, '1 more than' no corner");
        adds(new OnlineHull(0), 0, 0, 1);
        adds(Hulls.of(0, 0, 0), 1, 0, 1);
        adds(Hulls.of(0, 0, 0), -1, 0, 1);
        adds(Hulls.of(0, 0, 0, 8, 0), 4, 1, 1);
        adds(Hulls.of(0, 0, 0, 8, 0), 4, -1, 1);
        adds(Hulls.square(), 4, -1, 1);
        adds(Hulls.square(), 9, 4, 1);
        adds(Hulls.square(), 4, 9, 1);
        adds(Hulls.square(), -1, 4, 1);
    }

    private static void oneMoreForEachCornerGone() {
        due.part("promise 2, '1 more than the corners that are none any more'");
        adds(Hulls.square(), -1, -1, 2);
        adds(Hulls.square(), 9, -1, 2);
        adds(Hulls.square(), 9, 9, 2);
        adds(Hulls.square(), -1, 9, 2);
        OnlineHull steep = Hulls.of(20, 0, 0, 8, 0, 7, 8, 1, 8);
        adds(steep, 4, 40, 3);
        due.corners(steep, 0, 0, 8, 0, 4, 40);
        OnlineHull roundTheFirst = Hulls.of(20, 0, 1, 1, 0, 9, 0, 9, 9, 0, 9);
        adds(roundTheFirst, -100, -100, 3);
        due.corners(roundTheFirst, -100, -100, 9, 0, 9, 9, 0, 9);
    }

    private static void oneMoreForAnEndOfALine() {
        due.part("promise 2, an end of a line that is none any more");
        OnlineHull hull = Hulls.of(0, 0, 0, 2, 1);
        adds(hull, 4, 2, 2);
        due.corners(hull, 0, 0, 4, 2);
        adds(hull, -2, -1, 2);
        due.corners(hull, -2, -1, 4, 2);
        OnlineHull upright = Hulls.of(0, 5, 0, 5, 1);
        adds(upright, 5, MOST, 2);
        adds(upright, 5, -MOST, 2);
        due.corners(upright, 5, -MOST, 5, MOST);
    }

    private static void asManyGoneAsCanBe() {
        due.part("promise 2, a full hull of 64 corners that loses 62 of them");
        OnlineHull bowl = Hulls.fullBowl();
        adds(bowl, 0, -MOST, 63);
        due.corners(bowl, -32, 1024, 0, -MOST, 31, 961);
        due.is("points()", bowl.points(), 65);
    }

    private static void badOutOfRange() {
        due.part("promise 2, 'BAD out of range'");
        OnlineHull hull = Hulls.square();
        for (int[] p : Hulls.OUT_OF_RANGE) {
            adds(hull, p[0], p[1], BAD);
        }
        due.square(hull, 4);
        for (int[] p : Hulls.ENDS_OF_RANGE) {
            due.holds("add(" + p[0] + ", " + p[1] + ") comes", Hulls.square().add(p[0], p[1]) > 0);
        }
    }

    private static void badInEveryState() {
        due.part("promise 2, BAD changes nothing, whatever came before");
        for (int[] p : Hulls.OUT_OF_RANGE) {
            OnlineHull hull = new OnlineHull(0);
            adds(hull, p[0], p[1], BAD);
            due.noPoints(hull);
            hull.add(3, 4);
            adds(hull, p[0], p[1], BAD);
            due.corners(hull, 3, 4);
            hull.add(9, 8);
            adds(hull, p[0], p[1], BAD);
            due.corners(hull, 3, 4, 9, 8);
            hull.add(9, 0);
            adds(hull, p[0], p[1], BAD);
            due.corners(hull, 3, 4, 9, 0, 9, 8);
            due.is("points()", hull.points(), 3);
        }
    }

    private static void badBeforeFull() {
        due.part("promise 2, BAD when the hull is full too");
        OnlineHull hull = Hulls.fullSquare();
        for (int[] p : Hulls.OUT_OF_RANGE) {
            adds(hull, p[0], p[1], BAD);
        }
        due.square(hull, 4);
    }

    private static void fullWithOneCornerTooMany() {
        due.part("promise 2, 'FULL when the hull would have more than CAP corners'");
        adds(Hulls.of(0, 0, 0, 8, 0, 8, 8), 0, 8, FULL);
        adds(Hulls.of(1, 0, 0, 8, 0, 8, 8), 0, 8, 1);
        int[][] beside = {{4, -1}, {9, 4}, {4, 9}, {-1, 4}};
        for (int[] p : beside) {
            adds(Hulls.fullSquare(), p[0], p[1], FULL);
            adds(Hulls.of(2, 0, 0, 8, 0, 8, 8, 0, 8), p[0], p[1], 1);
        }
        adds(Hulls.fullBowl(), 0, 1024, FULL);
        adds(Hulls.fullBowl(), 32, 1024, FULL);
        adds(Hulls.fullBowl(), -33, 1089, FULL);
    }

    private static void fullPointDoesNotCome() {
        due.part("promise 2, '(the point does not come)'");
        OnlineHull hull = Hulls.fullSquare();
        for (int again = 0; again < 3; again++) {
            adds(hull, 9, 4, FULL);
            adds(hull, 4, -1, FULL);
            adds(hull, 4, 9, FULL);
            adds(hull, -1, 4, FULL);
            due.square(hull, 4);
        }
    }

    private static void fullNeverForAPointInTheHull() {
        due.part("promise 2, 0 in a full hull and on its border");
        OnlineHull hull = Hulls.fullSquare();
        adds(hull, 4, 4, 0);
        adds(hull, 8, 4, 0);
        adds(hull, 0, 4, 0);
        adds(hull, 8, 8, 0);
        due.square(hull, 8);
        OnlineHull bowl = Hulls.fullBowl();
        adds(bowl, 0, 500, 0);
        adds(bowl, 31, 961, 0);
        due.is("points()", bowl.points(), 66);
    }

    private static void fullNotWhenACornerGoes() {
        due.part("promise 2, a full hull whose corners do not become more");
        OnlineHull square = Hulls.fullSquare();
        adds(square, 9, 9, 2);
        due.corners(square, 0, 0, 8, 0, 9, 9, 0, 8);
        OnlineHull onALine = Hulls.fullSquare();
        adds(onALine, 9, 0, 2);
        due.corners(onALine, 0, 0, 9, 0, 8, 8, 0, 8);
        OnlineHull triangle = Hulls.of(0, 0, 0, 8, 0, 0, 8);
        adds(triangle, 9, 0, 2);
        adds(triangle, 0, 9, 2);
        adds(triangle, -1, -1, 2);
        due.corners(triangle, -1, -1, 9, 0, 0, 9);
        adds(triangle, 9, 9, FULL);
    }

    private static void fullPointMayComeLater() {
        due.part("promise 2, a point that was refused comes when there is room");
        OnlineHull hull = Hulls.of(1, 0, 0, 8, 0, 7, 8, 1, 8);
        adds(hull, 9, 4, FULL);
        adds(hull, 4, 40, 3);
        due.corners(hull, 0, 0, 8, 0, 4, 40);
        adds(hull, 9, 4, 1);
        due.corners(hull, 0, 0, 8, 0, 9, 4, 4, 40);
        due.is("points()", hull.points(), 6);
    }

    private static void sizeWithoutCorners() {
        due.part("promise 3, size without corners");
        due.is("size()", new OnlineHull(0).size(), 0);
        due.is("size()", new OnlineHull(61).size(), 0);
        due.is("size()", Hulls.of(0, MOST + 1, 0, 0, Hulls.LEAST_INT).size(), 0);
    }

    private static void sizeAfterRefusedCalls() {
        due.part("promise 3, size after refused calls");
        OnlineHull hull = Hulls.fullSquare();
        hull.add(9, 4);
        due.is("size() after FULL", hull.size(), 4);
        hull.add(MOST + 1, 4);
        due.is("size() after BAD", hull.size(), 4);
        hull.inside(MOST + 1, 4);
        hull.farthest(MOST + 1, 4);
        hull.tangent(9, 4, 2);
        hull.xOf(4);
        hull.yOf(-1);
        due.is("size() after others", hull.size(), 4);
    }

    private static void sizeGoesDownToo() {
        due.part("promise 3, size when corners go");
        OnlineHull hull = Hulls.fullBowl();
        due.is("size()", hull.size(), 64);
        hull.add(0, -MOST);
        due.is("size()", hull.size(), 3);
        hull.add(0, 0);
        due.is("size() after a point in the hull", hull.size(), 3);
    }

    private static void pointsInTheHullAreCounted() {
        due.part("promise 11, '(also those that lay in the hull)'");
        OnlineHull hull = Hulls.of(0, 5, 5);
        due.is("one", hull.points(), 1);
        hull.add(5, 5);
        due.is("the same again", hull.points(), 2);
        hull.add(9, 9);
        hull.add(7, 7);
        due.is("between two", hull.points(), 4);
        hull.add(9, 5);
        hull.add(8, 6);
        due.is("inside", hull.points(), 6);
        hull.add(9, 7);
        due.is("on the border", hull.points(), 7);
        hull.add(9, 9);
        due.is("a corner", hull.points(), 8);
    }

    private static void pointsThatDidNotComeAreNot() {
        due.part("promise 11, points that did not come");
        OnlineHull hull = new OnlineHull(1);
        hull.add(MOST + 1, 0);
        due.is("BAD on a new object", hull.points(), 0);
        hull = Hulls.fullSquare();
        hull.add(0, -MOST - 1);
        due.is("BAD", hull.points(), 4);
        hull.add(9, 4);
        due.is("FULL", hull.points(), 4);
        hull.add(9, 9);
        due.is("one that comes after them", hull.points(), 5);
    }

    private static void pointsOfALongRun() {
        due.part("promise 11, as many as a run can have");
        OnlineHull same = new OnlineHull(0);
        OnlineHull apart = new OnlineHull(0);
        for (int i = 0; i < 511; i++) {
            same.add(0, 0);
            apart.add(i, -i);
        }
        due.is("the same point", same.points(), 511);
        due.is("points of a line", apart.points(), 511);
    }

    private static void lookingChangesNothing() {
        due.part("promise 11, no other call is a point");
        OnlineHull hull = Hulls.square();
        hull.inside(100, 100);
        hull.inside(4, 4);
        hull.farthest(100, 100);
        hull.tangent(100, 100, 0);
        hull.tangent(100, 100, 1);
        due.square(hull, 4);
    }
}
