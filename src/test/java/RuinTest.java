/** Promises 19 and 20: RUINS, and who erred by them. */
final class RuinTest {
    private static final Check CHECK = new Check("RuinTest");

    public static void main(String[] args) {
        ruins();
        noLineAtNone();
        oneDay();
        twoDays();
        met();
        wrong();
        CHECK.close();
    }

    private static void ruins() {
        HalfBridge x = Told.at(CHECK, "wide 4");
        CHECK.is("ruin", x.ruin(0, 0, -9999), true);
        CHECK.is("ruin", x.ruin(0, 39, 9999), true);
        CHECK.is("ruin", x.ruin(1, 39, 0), true);
        CHECK.is("told", x.count(7), 3);
        CHECK.is("told again", x.ruin(1, 39, 5), true);
        CHECK.is("told", x.count(7), 3);
        CHECK.is("place 40", x.ruin(0, 40, 0), false);
        CHECK.is("place -2", x.ruin(0, -2, 0), false);
        CHECK.is("line 10000", x.ruin(0, 1, 10000), false);
        CHECK.is("line -10000", x.ruin(0, 1, -10000), false);
        CHECK.is("side 2", x.ruin(2, 1, 0), false);
        CHECK.is("side -1", x.ruin(-1, 1, 0), false);
        CHECK.is("side 2, place NONE", x.ruin(2, -1, 0), false);
        CHECK.is("told", x.count(7), 3);
        CHECK.is("place NONE", x.ruin(0, -1, 0), true);
        CHECK.is("none of both", x.count(7), 0);
    }

    /** No LINE is told at place NONE: its bounds do not bind there, all else does. */
    private static void noLineAtNone() {
        HalfBridge x = Told.at(CHECK, "wide 4");
        int[] lines = {0, 9999, -9999, 10000, -10000, 100000, Integer.MAX_VALUE, Integer.MIN_VALUE};
        for (int line : lines) {
            for (int side = 0; side < 2; side++) {
                x.ruin(0, 3, 7);
                x.ruin(1, 0, -7);
                CHECK.is("told", x.count(7), 2);
                CHECK.is("side 2, place NONE, line " + line, x.ruin(2, -1, line), false);
                CHECK.is("side -1, place NONE, line " + line, x.ruin(-1, -1, line), false);
                CHECK.is("nothing happened", x.count(7), 2);
                CHECK.is("place NONE, line " + line, x.ruin(side, -1, line), true);
                CHECK.is("none then", x.count(7), 0);
                CHECK.is("place NONE once more, line " + line, x.ruin(side, -1, line), true);
                CHECK.is("still none", x.count(7), 0);
            }
            CHECK.is("place -2, line " + line, x.ruin(0, -2, line), false);
            CHECK.is("no river, place NONE, line " + line, new HalfBridge().ruin(0, -1, line), false);
        }
    }

    private static void erred(HalfBridge x, int left, int right, int e, int... due) {
        int days = due.length / 2;
        for (int what = 0; what < due.length; what++) {
            CHECK.is("erred(" + left + ", " + right + ", " + days + ", " + e + ", " + what + ")",
                    x.erred(left, right, days, e, what), due[what]);
        }
        CHECK.is("no more days", x.erred(left, right, days, e, due.length), -1);
    }

    private static void oneDay() {
        // By 9 the left sees 1 and -3, 0 or 3: it turns by -2, 1 or 2.
        HalfBridge x = Told.at(CHECK, "wide 4;bank 1 1 0;eyes 0 9;eyes 1 9;step 2", "turn other - line");
        x.err(0, 0, 9);
        erred(x, 0, -1, 9, 9, 1, 1);
        x.ruin(0, 0, 2);
        erred(x, 0, -1, 9, 3, 2, 1);
        x.ruin(0, 0, 1);
        erred(x, 0, -1, 9, 3, 0, 1);
        erred(x, 0, -1, 1, 9, 1, 1);
        x.ruin(0, 0, 5);
        erred(x, 0, -1, 9, 0, 0, 0);
        x.ruin(0, -1, 0);
        x.ruin(1, 0, 1);
        erred(x, 0, -1, 9, 9, 1, 1);
        x.ruin(1, 1, 1);
        erred(x, 0, -1, 9, 0, 0, 0);
        // Both erred: the right sees 0 and -3, 0 or 3, it turns by -1 -3, -1 or 2.
        x.ruin(0, -1, 0);
        x.ruin(0, 0, -2);
        x.ruin(1, 0, 3);
        erred(x, 0, 0, 9, 1, 2, 2);
        // A YARD that has stood before counts as well.
        x.ruin(0, -1, 0);
        x.build(0, 2, 0);
        x.ruin(0, 0, 2);
        erred(x, -1, -1, 9, 9, 1, 1);
        x.ruin(0, 0, 1);
        erred(x, -1, -1, 9, 0, 0, 0);
    }

    private static void twoDays() {
        HalfBridge x = Told.at(CHECK, "wide 20;bank 1 0 0;eyes 0 9;step 20", "turn other - line");
        // 9 * 9 * 20 / 90 is 18 on the first day, 9 * 9 * 18 / 90 is 16 on the second.
        // From -18 the left can't come to 16 by a step of 20; what the right sees is nothing to it.
        x.ruin(0, 1, 16);
        erred(x, 0, -1, 9, 18, 1, 1, 2, 1);
        x.ruin(0, 0, 18);
        erred(x, 0, -1, 9, 9, 2, 1, 2, 1);
        x.ruin(0, 1, 0);
        erred(x, 0, -1, 9, 9, 2, 1, 0, 1);
        x.ruin(0, 2, 0);
        erred(x, 0, -1, 9, 0, 0, 0, 0, 0);
        erred(x, 0, -1, 9, 27, 2, 1, 0, 1, 0, 1);
        x.ruin(0, 3, 12);
        erred(x, 0, -1, 9, 81, 2, 1, 0, 1, 0, 1, 2, 1);
    }

    /** No DAY comes when it is MET, but its ERRORS are rows all the same. */
    private static void met() {
        HalfBridge x = Told.at(CHECK, "wide 2");
        erred(x, -1, -1, 1, 6561, 1, 1, 1, 1, 1, 1, 1, 1);
        x.ruin(0, 0, 0);
        x.ruin(1, 0, 0);
        erred(x, -1, -1, 1, 729, 1, 1, 1, 1, 1, 1);
        x.ruin(0, 1, 0);
        erred(x, -1, -1, 1, 0, 0, 0, 0, 0);
    }

    private static void wrong() {
        HalfBridge x = Told.at(CHECK, "wide 4", "turn 1");
        int[][] wrong = {{1, 0, 1, 1, 0}, {-2, 0, 1, 1, 0}, {0, 1, 1, 1, 0}, {0, -2, 1, 1, 0}, {0, 0, 0, 1, 0},
            {0, 0, 5, 1, 0}, {0, 0, 1, 0, 0}, {0, 0, 1, 10, 0}, {0, 0, 1, 1, 3}, {0, 0, 1, 1, -1}, {0, 0, 4, 1, 9}};
        for (int[] w : wrong) {
            CHECK.is("wrong", x.erred(w[0], w[1], w[2], w[3], w[4]), -1);
        }
        CHECK.is("right", x.erred(0, 0, 4, 1, 8), 1);
    }
}
