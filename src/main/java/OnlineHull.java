/** The convex hull of points that come one by one, told by its corners. */
public final class OnlineHull {
    public static final int BAD = -1;
    public static final int FULL = -2;

    private static final int NONE = -1;
    private static final int LIMIT = 16383;
    private static final int LEAST_CAP = 3;
    private static final int CAPS = 62;

    private static final int OUTSIDE = 0;
    private static final int BORDER = 1;
    private static final int INSIDE = 2;

    // A side is seen when the point's turn from it is under the bound. A side whose line runs
    // through the point has turn 0: such a side loses a corner to a new point, but has that
    // point on no hand of its own.
    private static final int RIGHT_HAND = 0;
    private static final int RIGHT_HAND_OR_LINE = 1;

    private final int cap;
    private final int[] cornerX;
    private final int[] cornerY;
    // The corners of the next hull, from the new point on: kept here so that no add makes rows.
    private final int[] ringX;
    private final int[] ringY;
    private int corners;
    private int came;

    public OnlineHull(int cap) {
        this.cap = LEAST_CAP + Math.floorMod(cap, CAPS);
        this.cornerX = new int[this.cap];
        this.cornerY = new int[this.cap];
        this.ringX = new int[this.cap];
        this.ringY = new int[this.cap];
        this.corners = 0;
        this.came = 0;
    }

    public int add(int x, int y) {
        if (!inRange(x, y)) {
            return BAD;
        }
        int answer = 0;
        if (placeOf(x, y) == OUTSIDE) {
            answer = staysInLine(x, y) ? growLine(x, y) : growRing(x, y);
        }
        if (answer != FULL) {
            came++;
        }
        return answer;
    }

    public int size() {
        return corners;
    }

    public int xOf(int i) {
        return isCorner(i) ? cornerX[i] : 0;
    }

    public int yOf(int i) {
        return isCorner(i) ? cornerY[i] : 0;
    }

    public int inside(int x, int y) {
        return inRange(x, y) ? placeOf(x, y) : OUTSIDE;
    }

    public int twiceArea() {
        int sum = 0;
        for (int i = 1; i < corners; i++) {
            sum += turn(i, cornerX[0], cornerY[0]);
        }
        return sum;
    }

    public int farthest(int x, int y) {
        if (corners == 0 || !inRange(x, y)) {
            return NONE;
        }
        int best = 0;
        for (int i = 1; i < corners; i++) {
            if (reach(i, x, y) > reach(best, x, y)) {
                best = i;
            }
        }
        return best;
    }

    public int tangent(int x, int y, int which) {
        if (corners < 3 || !inRange(x, y) || placeOf(x, y) != OUTSIDE) {
            return NONE;
        }
        if (which == 0) {
            return firstSeen(x, y, RIGHT_HAND);
        }
        return which == 1 ? lastSeen(x, y, RIGHT_HAND) : NONE;
    }

    public int diameter() {
        int greatest = 0;
        for (int i = 0; i < corners; i++) {
            for (int j = 0; j < i; j++) {
                greatest = Math.max(greatest, squaredDistance(i, j));
            }
        }
        return greatest;
    }

    public int points() {
        return came;
    }

    private static boolean inRange(int x, int y) {
        return -LIMIT <= x && x <= LIMIT && -LIMIT <= y && y <= LIMIT;
    }

    private static boolean comesBefore(int ax, int ay, int bx, int by) {
        return ax < bx || (ax == bx && ay < by);
    }

    private boolean isCorner(int i) {
        return 0 <= i && i < corners;
    }

    private int next(int i) {
        return i + 1 < corners ? i + 1 : 0;
    }

    private int previous(int i) {
        return i > 0 ? i - 1 : corners - 1;
    }

    /**
     * Over 0 when the point is on the left hand of the side from corner i on, under 0 on its
     * right hand. Two products of at most 32766 squared each: an int holds their difference.
     */
    private int turn(int i, int x, int y) {
        int j = next(i);
        int alongX = cornerX[j] - cornerX[i];
        int alongY = cornerY[j] - cornerY[i];
        return alongX * (y - cornerY[i]) - alongY * (x - cornerX[i]);
    }

    private int reach(int i, int x, int y) {
        return x * cornerX[i] + y * cornerY[i];
    }

    private int squaredDistance(int i, int j) {
        int dx = cornerX[i] - cornerX[j];
        int dy = cornerY[i] - cornerY[j];
        return dx * dx + dy * dy;
    }

    private int placeOf(int x, int y) {
        if (corners == 0) {
            return OUTSIDE;
        }
        return corners < 3 ? placeInLine(x, y) : placeInRing(x, y);
    }

    /** One corner counts as a line from itself to itself: every turn from it is 0. */
    private int placeInLine(int x, int y) {
        int last = corners - 1;
        boolean on = turn(0, x, y) == 0
                && !comesBefore(x, y, cornerX[0], cornerY[0])
                && !comesBefore(cornerX[last], cornerY[last], x, y);
        return on ? BORDER : OUTSIDE;
    }

    private int placeInRing(int x, int y) {
        int place = INSIDE;
        for (int i = 0; i < corners; i++) {
            int turned = turn(i, x, y);
            if (turned < 0) {
                return OUTSIDE;
            }
            if (turned == 0) {
                place = BORDER;
            }
        }
        return place;
    }

    private boolean staysInLine(int x, int y) {
        return corners < 2 || (corners == 2 && turn(0, x, y) == 0);
    }

    private int growLine(int x, int y) {
        if (corners == 0) {
            setCorner(0, x, y);
            corners = 1;
            return 1;
        }
        int last = corners - 1;
        if (comesBefore(x, y, cornerX[0], cornerY[0])) {
            setCorner(1, cornerX[last], cornerY[last]);
            setCorner(0, x, y);
        } else {
            setCorner(1, x, y);
        }
        int gone = corners - 1;
        corners = 2;
        return 1 + gone;
    }

    private int growRing(int x, int y) {
        int first = firstSeen(x, y, RIGHT_HAND_OR_LINE);
        int last = lastSeen(x, y, RIGHT_HAND_OR_LINE);
        // A point outside always sees a side: this only keeps the indices below safe.
        if (!isCorner(first) || !isCorner(last)) {
            return 0;
        }
        int kept = first - last + 1;
        if (first < last) {
            kept += corners;
        }
        if (kept + 1 > cap) {
            return FULL;
        }
        int gone = corners - kept;
        fillRing(x, y, last, kept);
        corners = kept + 1;
        takeRing();
        return 1 + gone;
    }

    private int firstSeen(int x, int y, int bound) {
        for (int i = 0; i < corners; i++) {
            if (turn(i, x, y) < bound && turn(previous(i), x, y) >= bound) {
                return i;
            }
        }
        return NONE;
    }

    private int lastSeen(int x, int y, int bound) {
        for (int i = 0; i < corners; i++) {
            if (turn(i, x, y) >= bound && turn(previous(i), x, y) < bound) {
                return i;
            }
        }
        return NONE;
    }

    private void setCorner(int i, int x, int y) {
        cornerX[i] = x;
        cornerY[i] = y;
    }

    private void fillRing(int x, int y, int from, int kept) {
        ringX[0] = x;
        ringY[0] = y;
        int corner = from;
        for (int i = 1; i <= kept; i++) {
            ringX[i] = cornerX[corner];
            ringY[i] = cornerY[corner];
            corner = next(corner);
        }
    }

    private void takeRing() {
        int from = leastOfRing();
        for (int i = 0; i < corners; i++) {
            setCorner(i, ringX[from], ringY[from]);
            from = next(from);
        }
    }

    private int leastOfRing() {
        int least = 0;
        for (int i = 1; i < corners; i++) {
            if (comesBefore(ringX[i], ringY[i], ringX[least], ringY[least])) {
                least = i;
            }
        }
        return least;
    }
}
