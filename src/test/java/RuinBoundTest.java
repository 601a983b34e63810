/** RUINS and who erred by them (part III of the document, promises 19 and 20), at each bound that it tells. */
final class RuinBoundTest {
    private static final Check CHECK = new Check("RuinBoundTest");
    private static final Rich TOLD = new Rich(CHECK, Rich::told);
    private static final Rich MET = new Rich(CHECK, Rich::met);
    private static final Rich BARE = new Rich(CHECK, Rich::bare);

    public static void main(String[] args) {
        places();
        everyPlace();
        ruin();
        noneThen();
        rows();
        sizes();
        inPlaceOfTold();
        notThere();
        verdicts();
        dayByDay();
        erredWhat();
        erredRefused();
        CHECK.close();
    }

    private static void places() {
        CHECK.sentence("RUINS: of both SIDES the LINES of YARDS (told; by place, 0 the first).");
        for (int side = 0; side < 2; side++) {
            HalfBridge x = Told.at(CHECK, "wide 9;bank 0 5 50;bank 1 5 50;step 3");
            x.build(side, 1, 0);
            x.build(side, 2, 0);
            int[][] due = {{0, 6, 9}, {0, 5, 0}, {0, 7, 0}, {0, 8, 0}, {1, 8, 9}, {1, 6, 0}, {1, 50, 0}, {2, 8, 9}, {3, 8, 0}};
            for (int[] d : due) {
                x.ruin(0, -1, 0);
                CHECK.is("ruin", x.ruin(side, d[0], d[1]), true);
                CHECK.is("LINE " + d[1] + " at place " + d[0], x.erred(-1, -1, 1, 1, 0), d[2]);
            }
            x.ruin(0, -1, 0);
            x.ruin(side, 0, 6);
            x.ruin(1 - side, 0, 5);
            CHECK.is("of both SIDES", x.erred(-1, -1, 1, 1, 0), 9);
            x.ruin(1 - side, 0, 6);
            CHECK.is("the other's is not so", x.erred(-1, -1, 1, 1, 0), 0);
            x.ruin(1 - side, 0, 5);
            CHECK.is("told anew it is", x.erred(-1, -1, 1, 1, 0), 9);
        }
    }

    /** All 80 places, each told once and then anew; the last one of a RIVER of 40 yards. */
    private static void everyPlace() {
        HalfBridge x = Told.at(CHECK, "wide 40;step 2");
        for (int i = 0; i < 80; i++) {
            CHECK.is("ruin " + i, x.ruin(i / 40, i % 40, i), true);
            CHECK.is("LINES", x.count(7), i + 1);
        }
        for (int i = 0; i < 80; i++) {
            CHECK.is("ruin " + i + " anew", x.ruin(i / 40, i % 40, -9999), true);
        }
        CHECK.is("LINES", x.count(7), 80);
        for (int side = 0; side < 2; side++) {
            x = Told.at(CHECK, "wide 40;step 2");
            for (int i = 0; i < 40; i++) {
                x.build(side, 2, 0);
                x.ruin(side, i, 2 * i + 2);
            }
            CHECK.is("all forty are so", x.erred(-1, -1, 1, 1, 0), 9);
            x.ruin(side, 39, 81);
            CHECK.is("the last is not", x.erred(-1, -1, 1, 1, 0), 0);
            x.ruin(side, 39, 80);
            x.ruin(side, 0, 3);
            CHECK.is("the first is not", x.erred(-1, -1, 1, 1, 0), 0);
            x.ruin(side, 0, 2);
            x.ruin(1 - side, 39, 0);
            CHECK.is("one of the other is not there", x.erred(-1, -1, 1, 1, 0), 0);
        }
    }

    private static void ruin() {
        CHECK.sentence("The LINE of a YARD in the RUINS (place 0 to 39; -9999 to 9999; place NONE: there are none then): true;");
        for (int side = 0; side < 2; side++) {
            int s = side;
            for (int place : new int[] {0, 5, 38, 39}) {
                for (int line : new int[] {-9999, -9998, 0, 9998, 9999}) {
                    HalfBridge x = Told.at(CHECK, "wide 4");
                    CHECK.is("ruin(" + side + ", " + place + ", " + line + ")", x.ruin(side, place, line), true);
                    CHECK.is("LINES", x.count(7), 1);
                }
            }
            TOLD.changes("ruin at place 39", x -> x.ruin(s, 39, 9999) ? 1 : 0, 1);
            TOLD.changes("ruin at place 0", x -> x.ruin(s, 0, -9999) ? 1 : 0, 1);
        }
        CHECK.sentence("false, and nothing happens, without these (no RIVER).");
        for (int side = 0; side < 2; side++) {
            int s = side;
            for (int place : new int[] {-2, 40, 41, 79, 80, Integer.MIN_VALUE, Integer.MAX_VALUE}) {
                TOLD.refuses("ruin at place " + place, x -> x.ruin(s, place, 0) ? 1 : 0, 0);
            }
            for (int line : Rich.beyond(-9999, 9999)) {
                TOLD.refuses("ruin of line " + line, x -> x.ruin(s, 0, line) ? 1 : 0, 0);
                TOLD.refuses("ruin of line " + line, x -> x.ruin(s, 39, line) ? 1 : 0, 0);
            }
            BARE.refuses("no RIVER: ruin", x -> x.ruin(s, 0, 0) ? 1 : 0, 0);
            BARE.refuses("no RIVER: ruin at NONE", x -> x.ruin(s, -1, 0) ? 1 : 0, 0);
        }
        for (int side : Rich.beyond(0, 1)) {
            TOLD.refuses("ruin of side " + side, x -> x.ruin(side, 0, 0) ? 1 : 0, 0);
            TOLD.refuses("ruin of side " + side + " at place 39", x -> x.ruin(side, 39, 0) ? 1 : 0, 0);
        }
        MET.changes("ruin of what is MET", x -> x.ruin(0, 7, 0) ? 1 : 0, 1);
    }

    private static void noneThen() {
        for (int side = 0; side < 2; side++) {
            for (int line : new int[] {0, 9999, -9999, 10000, -10000, Integer.MAX_VALUE, Integer.MIN_VALUE}) {
                HalfBridge x = Told.at(CHECK, "wide 9");
                CHECK.is("none of none", x.ruin(side, -1, line), true);
                x.ruin(0, 0, 7);
                x.ruin(1, 39, 7);
                CHECK.is("not so", x.erred(-1, -1, 1, 1, 0), 0);
                CHECK.is("at NONE", x.ruin(side, -1, line), true);
                CHECK.is("there are none", x.count(7), 0);
                CHECK.is("all rows", x.erred(-1, -1, 1, 1, 0), 9);
                x.ruin(1, 0, 0);
                CHECK.is("told again", x.count(7), 1);
            }
        }
    }

    private static void rows() {
        CHECK.sentence("WHO ERRED: of n days (1 to 4) from now on by two RULES,");
        HalfBridge x = Told.at(CHECK, "wide 40;eyes 0 9;eyes 1 9", "turn other-line", "wait day<4;turn 0");
        int[] all = {9, 81, 729, 6561};
        for (int n = 1; n <= 4; n++) {
            CHECK.is("all rows of " + n, x.erred(0, 0, n, 9, 0), all[n - 1]);
        }
        x.ruin(0, 3, 0);
        for (int n = 1; n <= 4; n++) {
            CHECK.is("the fourth YARD stands behind four days, " + n, x.erred(-1, -1, n, 1, 0), n < 4 ? 0 : 6561);
        }
        x.ruin(0, 4, 0);
        CHECK.is("the fifth does not", x.erred(-1, -1, 4, 1, 0), 0);
        x.ruin(0, -1, 0);
        x.ruin(0, 0, 0);
        CHECK.is("from now on", x.erred(1, 1, 4, 1, 0), 0);
        x.spring(1, 1, 1);
        CHECK.is("from now on", x.erred(1, 1, 3, 1, 0), 0);
        CHECK.is("from now on", x.erred(1, 1, 4, 1, 0), 6561);
        x = Told.at(CHECK, "wide 2;flood 1 1", "pull yards=1");
        x.ruin(0, 0, 0);
        x.ruin(1, 0, 0);
        for (int n = 1; n <= 4; n++) {
            CHECK.is("MET on the first day, no DAY more, " + n, x.erred(0, 0, n, 1, 0), all[n - 1]);
        }
        x.spring(0, 0, 1);
        for (int n = 1; n <= 4; n++) {
            CHECK.is("MET now, " + n, x.erred(0, 0, n, 1, 0), all[n - 1]);
        }
    }

    private static void sizes() {
        CHECK.sentence("with ERRORS of both SIDES each -e, 0 or e (e 1 to 9) each day in place of those told:");
        for (int e = 1; e <= 9; e++) {
            HalfBridge x = Told.at(CHECK, "wide 10;bank 0 20 0;bank 1 20 0;eyes 0 9;eyes 1 9;step 20", "turn other-line");
            for (int side = 0; side < 2; side++) {
                for (int by = -10; by <= 10; by++) {
                    x.ruin(side, 0, 20 + by);
                    int rows = by == 0 || by == e || by == -e ? 3 : 0;
                    CHECK.is("rows of " + by + " by " + e, x.erred(0, 0, 1, e, 0), rows);
                    CHECK.is("its verdict", x.erred(0, 0, 1, e, 1 + side), rows == 0 || by == 0 ? 0 : 2);
                    CHECK.is("the other's", x.erred(0, 0, 1, e, 2 - side), rows == 0 ? 0 : 1);
                }
                x.ruin(side, -1, 0);
            }
        }
    }

    private static void inPlaceOfTold() {
        HalfBridge x = Told.at(CHECK, "wide 10;bank 0 20 0;bank 1 20 0;eyes 0 9;eyes 1 9;step 20", "turn other-line");
        for (int place = 0; place < 8; place++) {
            x.err(0, place, 5);
            x.err(1, place, 5);
        }
        x.ruin(0, 0, 25);
        CHECK.is("not by the told ERROR", x.erred(0, 0, 1, 9, 0), 0);
        CHECK.is("by 5 in its place", x.erred(0, 0, 1, 5, 0), 3);
        x.ruin(0, 0, 20);
        CHECK.is("by 0 in its place", x.erred(0, 0, 1, 9, 0), 3);
        CHECK.is("it did not err", x.erred(0, 0, 1, 9, 1), 0);
    }

    private static void notThere() {
        CHECK.sentence("rows by which all told LINES are so then (a YARD that is not there is not so): how many;");
        HalfBridge x = Told.at(CHECK, "wide 9;bank 0 4 0;step 2;flood 0 9", "turn 0", "wait 1=1", "pull 1=1");
        x.ruin(0, 0, 4);
        CHECK.is("the flood took it; a bank is no YARD", x.erred(0, 0, 1, 1, 0), 0);
        CHECK.is("behind two days it is so", x.erred(0, 0, 2, 1, 0), 81);
        CHECK.is("waiting it is not", x.erred(1, 1, 2, 1, 0), 0);
        x.build(0, 0, 0);
        CHECK.is("pulled down it is not", x.erred(2, 2, 1, 1, 0), 0);
        x = Told.at(CHECK, "wide 9;step 2", "turn 1", "wait 1=1");
        x.ruin(0, 1, 2);
        x.ruin(1, 0, 1);
        CHECK.is("one of the two is not there", x.erred(0, 0, 1, 1, 0), 0);
        CHECK.is("both are", x.erred(0, 0, 2, 1, 0), 81);
        CHECK.is("the right's is not", x.erred(0, 1, 2, 1, 0), 0);
        CHECK.is("the left's is not", x.erred(1, 0, 2, 1, 0), 0);
        x.ruin(0, 1, 1);
        CHECK.is("there, but not so", x.erred(0, 0, 2, 1, 0), 0);
    }

    private static void verdicts() {
        CHECK.sentence("whether a SIDE erred on the k-th day in all (2), some (1), none (0) of these.");
        HalfBridge x = Told.at(CHECK, "wide 10;eyes 0 9;step 20", "turn 1 if other=0;turn 2 if other>0;turn 3");
        int[][] due = {{1, 3, 0, 1}, {2, 3, 2, 1}, {3, 3, 2, 1}, {4, 0, 0, 0}};
        for (int[] d : due) {
            x.ruin(0, 0, d[0]);
            for (int what = 0; what < 3; what++) {
                CHECK.is("LINE " + d[0] + ", what " + what, x.erred(0, -1, 1, 9, what), d[1 + what]);
            }
        }
        x.ruin(0, -1, 0);
        for (int what = 1; what < 9; what++) {
            CHECK.is("some of all rows", x.erred(0, 0, 4, 9, what), 1);
        }
        CHECK.is("none of no rows", x.ruin(0, 0, 4), true);
        for (int what = 0; what < 9; what++) {
            CHECK.is("no rows", x.erred(0, -1, 4, 9, what), 0);
        }
    }

    /** One told LINE tells of one SIDE on one day. */
    private static void dayByDay() {
        CHECK.sentence("WHO ERRED what 0: how many rows, 1 and on: 2, 1, 0 for the left on the first day, the right on it, the left"
                + " on the second day, and so on;");
        for (int what = 1; what <= 8; what++) {
            int side = (what - 1) % 2;
            int place = (what - 1) / 2;
            // By 9 * 9 * GAP / 90, 30 and more, an ERROR of 9 is seen, and turns a YARD by 1; no other does.
            HalfBridge x = Told.at(CHECK, "wide 40;bank 1 50 0;eyes 0 9;eyes 1 9", "turn 1 if other>70;turn 0",
                    "turn 1 if other>15;turn 0");
            for (int i = 0; i < 4; i++) {
                x.ruin(side, i, lineOf(side) + (i >= place ? 1 : 0));
            }
            for (int asked = 1; asked <= 8; asked++) {
                boolean same = (asked - 1) % 2 == side;
                int due = !same ? 1 : asked == what ? 2 : 1;
                CHECK.is("the one of what " + what + ", asked " + asked, x.erred(0, 1, 4, 9, asked), due);
            }
            x.ruin(0, -1, 0);
            for (int i = 0; i < 4; i++) {
                x.ruin(side, i, lineOf(side) + (i >= place ? 2 : 0));
            }
            CHECK.is("no row turns by 2", x.erred(0, 1, 4, 9, 0), 0);
        }
    }

    private static int lineOf(int side) {
        return side == 0 ? 0 : 50;
    }

    private static void erredWhat() {
        HalfBridge x = Told.at(CHECK, "wide 9", "turn 1");
        for (int n = 1; n <= 4; n++) {
            for (int what = 1; what <= 2 * n; what++) {
                CHECK.is("what " + what + " of " + n, x.erred(0, -1, n, 1, what), 1);
            }
            CHECK.is("what " + (2 * n + 1) + " of " + n, x.erred(0, -1, n, 1, 2 * n + 1), -1);
            CHECK.is("what -1 of " + n, x.erred(0, -1, n, 1, -1), -1);
        }
    }

    private static void erredRefused() {
        CHECK.sentence("and so on; NONE without these.");
        for (int n : Rich.beyond(1, 4)) {
            TOLD.refuses("erred of " + n, x -> x.erred(0, 1, n, 1, 0), -1);
            MET.refuses("erred of " + n, x -> x.erred(0, 1, n, 1, 0), -1);
        }
        for (int e : Rich.beyond(1, 9)) {
            TOLD.refuses("erred by " + e, x -> x.erred(0, 1, 1, e, 0), -1);
            MET.refuses("erred by " + e, x -> x.erred(0, 1, 1, e, 0), -1);
        }
        for (int n = 1; n <= 4; n++) {
            int days = n;
            for (int what : Rich.beyond(0, 2 * n)) {
                TOLD.refuses("erred of " + n + ", what " + what, x -> x.erred(0, 1, days, 1, what), -1);
            }
        }
        for (int rule : Rich.noRules()) {
            TOLD.refuses("erred by the left's RULE " + rule, x -> x.erred(rule, 0, 1, 1, 0), -1);
            TOLD.refuses("erred by the right's RULE " + rule, x -> x.erred(0, rule, 1, 1, 0), -1);
        }
        BARE.refuses("no RIVER: erred", x -> x.erred(0, 1, 1, 1, 0), -1);
        BARE.refuses("no RIVER: erred", x -> x.erred(-1, -1, 4, 9, 8), -1);
    }
}
