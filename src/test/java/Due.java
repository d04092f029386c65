/** Counts and prints the answers that are not the ones that are due. */
final class Due {
    private int wrong = 0;
    private String part = "";

    void part(String name) {
        part = name;
    }

    void is(String what, long got, long want) {
        if (got != want) {
            wrong++;
            System.out.println(part + ": " + what + " answered " + got + ", due is " + want);
        }
    }

    /** The corners are exactly these, given as x and y in turn; around them there are none. */
    void corners(OnlineHull hull, int... xy) {
        int count = xy.length / 2;
        is("size()", hull.size(), count);
        for (int i = 0; i < count; i++) {
            is("xOf(" + i + ")", hull.xOf(i), xy[2 * i]);
            is("yOf(" + i + ")", hull.yOf(i), xy[2 * i + 1]);
        }
        noCorner(hull, count);
        noCorner(hull, -1);
    }

    void noCorner(OnlineHull hull, int i) {
        is("xOf(" + i + ")", hull.xOf(i), 0);
        is("yOf(" + i + ")", hull.yOf(i), 0);
    }

    boolean tooMany() {
        return wrong > 50;
    }

    void end() {
        System.out.println(wrong == 0 ? "all answers are as due" : wrong + " answers are not as due");
        if (wrong != 0) {
            System.exit(1);
        }
    }
}
