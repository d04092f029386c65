/** Each promise with ordinary inputs; the tests named ..BoundaryTest have the edges and the wrong inputs. */
public final class PromisesTest {
    private static final Due due = new Due();

    public static void main(String[] args) {
        promise1NewObject();
        promise2Add();
        promise2AddInLine();
        promise2AddFull();
        promises3To5Corners();
        promise6Inside();
        promise7TwiceArea();
        promise8Farthest();
        promise9Tangent();
        promise10Diameter();
        promise11Points();
        objectsAreApart();
        due.end();
    }

    private static OnlineHull hexagon() {
        return Hulls.of(20, 5, 10, 10, 9, 10, 0, 0, -3, -2, 3, 5, -9);
    }

    private static void promise1NewObject() {
        due.part("promise 1, a new object");
        OnlineHull hull = new OnlineHull(20);
        due.noPoints(hull);
        for (int i = -11; i < 12; i++) {
            due.is("add(" + i + ", " + i * i + ")", hull.add(i, i * i), 1);
        }
        due.is("a corner more than CAP", hull.add(12, 144), OnlineHull.FULL);
    }

    private static void promise2Add() {
        due.part("promise 2, add");
        OnlineHull hull = new OnlineHull(20);
        due.is("the first point", hull.add(0, 0), 1);
        due.is("the same point", hull.add(0, 0), 0);
        due.is("a second corner", hull.add(8, 0), 1);
        due.is("a third corner", hull.add(8, 8), 1);
        due.is("a fourth corner", hull.add(0, 8), 1);
        due.is("a point inside", hull.add(3, 5), 0);
        due.is("a point on a side", hull.add(8, 3), 0);
        due.is("a corner", hull.add(8, 8), 0);
        due.is("a point that takes one corner", hull.add(9, 9), 2);
        due.corners(hull, 0, 0, 8, 0, 9, 9, 0, 8);
        due.is("a point that takes the first corner", hull.add(-1, -1), 2);
        due.corners(hull, -1, -1, 8, 0, 9, 9, 0, 8);
        due.is("a point far to the right", hull.add(2000, 1), 2);
        due.corners(hull, -1, -1, 2000, 1, 9, 9, 0, 8);
        due.is("a point that takes two corners", hull.add(-1000, 1000), 3);
        due.corners(hull, -1000, 1000, -1, -1, 2000, 1);
        due.is("a point out of range", hull.add(20000, 1), OnlineHull.BAD);
        due.corners(hull, -1000, 1000, -1, -1, 2000, 1);
    }

    private static void promise2AddInLine() {
        due.part("promise 2, add in a line");
        OnlineHull hull = Hulls.of(20, 4, 4);
        due.is("before the only corner", hull.add(2, 2), 1);
        due.corners(hull, 2, 2, 4, 4);
        due.is("between both", hull.add(3, 3), 0);
        due.is("past the last", hull.add(9, 9), 2);
        due.corners(hull, 2, 2, 9, 9);
        due.is("before the first", hull.add(-5, -5), 2);
        due.corners(hull, -5, -5, 9, 9);
        due.is("beside the line", hull.add(9, 0), 1);
        due.corners(hull, -5, -5, 9, 0, 9, 9);
    }

    private static void promise2AddFull() {
        due.part("promise 2, FULL");
        OnlineHull hull = Hulls.fullSquare();
        due.is("a fifth corner", hull.add(9, 4), OnlineHull.FULL);
        due.square(hull, 4);
        due.is("one comes, one goes", hull.add(9, 9), 2);
        due.corners(hull, 0, 0, 8, 0, 9, 9, 0, 8);
    }

    private static void promises3To5Corners() {
        due.part("promises 3 to 5, corners");
        due.corners(hexagon(), -2, 3, 0, -3, 5, -9, 10, 0, 10, 9, 5, 10);
        due.corners(Hulls.of(20, 1, 1, 3, 1, 4, 2, 3, 3, 1, 3, 100, -100, -100, -100, 0, 100),
                -100, -100, 100, -100, 0, 100);
    }

    private static void promise6Inside() {
        due.part("promise 6, inside");
        OnlineHull hull = hexagon();
        due.is("the middle", hull.inside(5, 2), 2);
        due.is("a corner", hull.inside(5, -9), 1);
        due.is("a side", hull.inside(10, 4), 1);
        due.is("out of it", hull.inside(9, -6), 0);
    }

    private static void promise7TwiceArea() {
        due.part("promise 7, twiceArea");
        due.is("a triangle", Hulls.of(20, 100, 100, 101, 100, 100, 101).twiceArea(), 1);
        due.is("a square", Hulls.square().twiceArea(), 128);
        due.is("six corners", hexagon().twiceArea(), 291);
        due.is("points inside add none", Hulls.of(20, 0, 0, 8, 0, 8, 8, 0, 8, 4, 4).twiceArea(), 128);
    }

    private static void promise8Farthest() {
        due.part("promise 8, farthest");
        due.is("up right", Hulls.square().farthest(1, 2), 2);
        due.is("down right", Hulls.square().farthest(3, -1), 1);
        due.is("up left", Hulls.square().farthest(-3, 1), 3);
        due.is("down left", Hulls.square().farthest(-3, -1), 0);
        due.is("down", hexagon().farthest(1, -30), 2);
        due.is("of a line", Hulls.of(20, -9, -9, 3, 3).farthest(1, 1), 1);
    }

    private static void promise9Tangent() {
        due.part("promise 9, tangent");
        due.tangents(Hulls.square(), 4, -3, 0, 1);
        due.tangents(Hulls.square(), 12, 3, 1, 2);
        due.tangents(Hulls.square(), 12, 12, 1, 3);
        due.tangents(Hulls.of(20, 0, 0, 9, 0, 0, 9), 20, 20, 1, 2);
        due.tangents(hexagon(), 100, 4, 2, 5);
    }

    private static void promise10Diameter() {
        due.part("promise 10, diameter");
        due.is("two", Hulls.of(20, 1, 1, 4, 5).diameter(), 25);
        due.is("a square", Hulls.square().diameter(), 128);
        due.is("neighbours", Hulls.of(20, 0, 0, 10, 0, 5, 1).diameter(), 100);
        due.is("six corners", hexagon().diameter(), 361);
    }

    private static void promise11Points() {
        due.part("promise 11, points");
        OnlineHull hull = Hulls.square();
        due.is("corners", hull.points(), 4);
        hull.add(4, 4);
        due.is("one inside", hull.points(), 5);
        hull.add(9, 9);
        due.is("one that takes a corner", hull.points(), 6);
    }

    private static void objectsAreApart() {
        due.part("two objects share nothing");
        OnlineHull one = Hulls.of(20, 1, 2);
        OnlineHull other = Hulls.of(20, 5, 6, 7, 8);
        due.corners(one, 1, 2);
        due.corners(other, 5, 6, 7, 8);
    }
}
