import java.util.ArrayList;
import java.util.Comparator;
import java.util.List;

/**
 * The document's answers worked out anew at every call from all points that came, in longs and
 * by other ways than the program's, so that both are not wrong in the same place.
 */
final class SlowHull {
    record Point(long x, long y) { }

    private static final Comparator<Point> TOLD_FIRST =
            Comparator.comparingLong(Point::x).thenComparingLong(Point::y);

    private final int cap;
    private final List<Point> came = new ArrayList<>();

    SlowHull(int cap) {
        int rest = cap % 62;
        this.cap = 3 + (rest < 0 ? rest + 62 : rest);
    }

    long add(int x, int y) {
        if (outOfRange(x, y)) {
            return -1;
        }
        List<Point> before = corners();
        List<Point> after = cornersWith(x, y);
        if (after.size() > cap) {
            return -2;
        }
        came.add(new Point(x, y));
        if (after.equals(before)) {
            return 0;
        }
        return 1 + before.stream().filter(p -> !after.contains(p)).count();
    }

    long size() {
        return corners().size();
    }

    long xOf(int i) {
        List<Point> corners = corners();
        return i >= 0 && i < corners.size() ? corners.get(i).x() : 0;
    }

    long yOf(int i) {
        List<Point> corners = corners();
        return i >= 0 && i < corners.size() ? corners.get(i).y() : 0;
    }

    long inside(int x, int y) {
        List<Point> corners = corners();
        if (outOfRange(x, y) || !cornersWith(x, y).equals(corners)) {
            return 0;
        }
        Point p = new Point(x, y);
        for (int i = 0; i < corners.size(); i++) {
            if (isBetween(corners.get(i), p, corners.get((i + 1) % corners.size()))) {
                return 1;
            }
        }
        return 2;
    }

    long twiceArea() {
        List<Point> corners = corners();
        long sum = 0;
        for (int i = 0; i < corners.size(); i++) {
            Point a = corners.get(i);
            Point b = corners.get((i + 1) % corners.size());
            sum += a.x() * b.y() - b.x() * a.y();
        }
        return sum;
    }

    long farthest(int x, int y) {
        List<Point> corners = corners();
        if (corners.isEmpty() || outOfRange(x, y)) {
            return -1;
        }
        long greatest = corners.stream().mapToLong(p -> x * p.x() + y * p.y()).max().getAsLong();
        int i = 0;
        while (x * corners.get(i).x() + y * corners.get(i).y() != greatest) {
            i++;
        }
        return i;
    }

    long tangent(int x, int y, int which) {
        List<Point> corners = corners();
        int n = corners.size();
        if (n < 3 || outOfRange(x, y) || inside(x, y) != 0 || which < 0 || which > 1) {
            return -1;
        }
        int first = 0;
        while (!onRight(corners, first, x, y)) {
            first++;
        }
        for (int back = 0; back < n && onRight(corners, (first + n - 1) % n, x, y); back++) {
            first = (first + n - 1) % n;
        }
        int last = first;
        while (onRight(corners, last, x, y)) {
            last = (last + 1) % n;
        }
        return which == 0 ? first : last;
    }

    long diameter() {
        long greatest = 0;
        for (Point a : came) {
            for (Point b : came) {
                long dx = a.x() - b.x();
                long dy = a.y() - b.y();
                greatest = Math.max(greatest, dx * dx + dy * dy);
            }
        }
        return greatest;
    }

    long points() {
        return came.size();
    }

    private static boolean outOfRange(long x, long y) {
        return Math.abs(x) > 16383 || Math.abs(y) > 16383;
    }

    private static long turn(Point a, Point b, Point p) {
        return (b.x() - a.x()) * (p.y() - a.y()) - (b.y() - a.y()) * (p.x() - a.x());
    }

    private static boolean onRight(List<Point> corners, int i, int x, int y) {
        return turn(corners.get(i), corners.get((i + 1) % corners.size()), new Point(x, y)) < 0;
    }

    private static boolean isBetween(Point a, Point p, Point b) {
        long dot = (a.x() - p.x()) * (b.x() - p.x()) + (a.y() - p.y()) * (b.y() - p.y());
        return turn(a, b, p) == 0 && dot <= 0;
    }

    private List<Point> corners() {
        return cornersOf(came);
    }

    private List<Point> cornersWith(int x, int y) {
        List<Point> more = new ArrayList<>(came);
        more.add(new Point(x, y));
        return cornersOf(more);
    }

    private static List<Point> cornersOf(List<Point> points) {
        List<Point> sorted = points.stream().distinct().sorted(TOLD_FIRST).toList();
        if (sorted.size() < 2) {
            return sorted;
        }
        List<Point> corners = half(sorted);
        corners.addAll(half(sorted.stream().sorted(TOLD_FIRST.reversed()).toList()));
        return corners;
    }

    /** One half of the hull without its last corner, which the other half begins with. */
    private static List<Point> half(List<Point> sorted) {
        List<Point> chain = new ArrayList<>();
        for (Point p : sorted) {
            while (chain.size() > 1
                    && turn(chain.get(chain.size() - 2), chain.get(chain.size() - 1), p) <= 0) {
                chain.remove(chain.size() - 1);
            }
            chain.add(p);
        }
        chain.remove(chain.size() - 1);
        return chain;
    }
}
