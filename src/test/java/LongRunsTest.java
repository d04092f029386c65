/** Runs of 512 calls, the same at every start, answered by the program and by SlowHull. */
public final class LongRunsTest {
    private static final int CALLS = 512;
    private static final int RUNS_OF_A_KIND = 60;
    private static final int[] ODD = {
        16383, -16383, 16384, -16384, 0, 1, -1, 32767, 65536, -65536,
        Integer.MAX_VALUE, Integer.MIN_VALUE, Integer.MAX_VALUE - 1, Integer.MIN_VALUE + 1,
    };
    private static final int[] CAPS = {0, 1, 2, 3, 5, 9, 20, 40, 60, 61, 62, -1, -5, -62, Integer.MIN_VALUE};

    private static final Due due = new Due();
    private static long seed = 12345;

    private OnlineHull hull;
    private SlowHull slow;
    private int kind;
    private int turn;

    public static void main(String[] args) {
        LongRunsTest test = new LongRunsTest();
        for (int kind = 0; kind < 7; kind++) {
            for (int run = 0; run < RUNS_OF_A_KIND && !due.tooMany(); run++) {
                test.oneRun(kind, run);
            }
        }
        due.end();
    }

    private static int below(int bound) {
        seed = seed * 6364136223846793005L + 1442695040888963407L;
        return (int) ((seed >>> 33) % bound);
    }

    private void oneRun(int kindOfPoints, int run) {
        int cap = CAPS[run % CAPS.length];
        due.part("kind " + kindOfPoints + ", run " + run + ", cap " + cap);
        hull = new OnlineHull(cap);
        slow = new SlowHull(cap);
        kind = kindOfPoints;
        int addsInTwenty = 4 + below(12);
        for (turn = 0; turn < CALLS; turn++) {
            if (below(20) < addsInTwenty) {
                add();
            } else {
                ask(below(10));
            }
        }
    }

    private void add() {
        int angle = below(1000000);
        int x = coordinate(angle, 0);
        int y = coordinate(angle, 1);
        due.is("call " + turn + ", add(" + x + ", " + y + ")", hull.add(x, y), slow.add(x, y));
    }

    private void ask(int method) {
        int angle = below(1000000);
        int x = coordinate(angle, 0);
        int y = coordinate(angle, 1);
        int i = below(15) == 0 ? ODD[below(ODD.length)] : below((int) slow.size() + 3) - 1;
        int which = below(15) == 0 ? ODD[below(ODD.length)] : below(4) - 1;
        String at = "call " + turn + ", ";
        switch (method) {
            case 0 -> due.is(at + "size()", hull.size(), slow.size());
            case 1 -> due.is(at + "xOf(" + i + ")", hull.xOf(i), slow.xOf(i));
            case 2 -> due.is(at + "yOf(" + i + ")", hull.yOf(i), slow.yOf(i));
            case 3 -> due.is(at + "inside(" + x + ", " + y + ")", hull.inside(x, y), slow.inside(x, y));
            case 4 -> due.is(at + "twiceArea()", hull.twiceArea(), slow.twiceArea());
            case 5 -> due.is(at + "farthest(" + x + ", " + y + ")", hull.farthest(x, y), slow.farthest(x, y));
            case 6 -> due.is(at + "diameter()", hull.diameter(), slow.diameter());
            case 7 -> due.is(at + "points()", hull.points(), slow.points());
            default -> due.is(at + "tangent(" + x + ", " + y + ", " + which + ")",
                    hull.tangent(x, y, which), slow.tangent(x, y, which));
        }
    }

    private int coordinate(int angle, int axis) {
        if (below(40) == 0) {
            return ODD[below(ODD.length)];
        }
        return switch (kind) {
            case 0 -> below(4);
            case 1 -> below(13) - 6;
            case 2 -> below(32767) - 16383;
            case 3 -> (below(3) - 1) * 16383;
            case 4 -> onCircle(angle, axis, 16383);
            case 5 -> onCircle(angle, axis, 40 + turn);
            // points that are mostly in one line, so that the hull stays without area for long
            default -> below(60) == 0 ? below(100) : (axis == 0 ? 3 : -2) * (angle % 200 - 100);
        };
    }

    private static int onCircle(int angle, int axis, int radius) {
        double turned = angle / 1000000.0 * 2 * StrictMath.PI;
        return (int) (radius * (axis == 0 ? StrictMath.cos(turned) : StrictMath.sin(turned)));
    }
}
