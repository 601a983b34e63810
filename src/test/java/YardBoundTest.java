/** YARDS, TIPS, ERRORS and what is done by hand (promises 6 to 10 and 12), at each bound that the document tells. */
final class YardBoundTest {
    private static final Check CHECK = new Check("YardBoundTest");
    private static final Rich TOLD = new Rich(CHECK, Rich::told);
    private static final Rich MET = new Rich(CHECK, Rich::met);
    private static final Rich BARE = new Rich(CHECK, Rich::bare);
    private static final int NO = -100000;

    public static void main(String[] args) {
        sides();
        firstAtTheBank();
        tips();
        gap();
        turns();
        crooked();
        yard();
        yardBounds();
        tipBounds();
        errors();
        errorsOneByOne();
        seenByError();
        restByEight();
        byHand();
        build();
        pull();
        miss();
        missBounds();
        CHECK.close();
    }

    private static void sides() {
        CHECK.sentence("SIDES 0 (left) and 1 (right).");
        for (int side : Rich.beyond(0, 1)) {
            TOLD.refuses("yard of " + side, x -> x.yard(side, 0, 0), NO);
            TOLD.refuses("tip of " + side, x -> x.tip(side, 0), NO);
            TOLD.refuses("err of " + side, x -> x.err(side, 0, 5), NO);
            TOLD.refuses("build of " + side, x -> x.build(side, 0, 0) ? 1 : 0, 0);
            TOLD.refuses("pull of " + side, x -> x.pull(side) ? 1 : 0, 0);
            TOLD.refuses("whatever of " + side, x -> x.whatever(0, 1, 9, side, 1, 1), -1);
            TOLD.refuses("straight of " + side, x -> x.straight(side, 0, 0), NO);
            TOLD.refuses("spite of " + side, x -> x.spite(side, 0, 4, 0), NO);
            TOLD.refuses("ruin of " + side, x -> x.ruin(side, 0, 0) ? 1 : 0, 0);
            TOLD.refuses("ruin of " + side + " at NONE", x -> x.ruin(side, -1, 0) ? 1 : 0, 0);
        }
        HalfBridge x = Told.at(CHECK, "wide 3;bank 0 1 2;bank 1 3 4");
        CHECK.is("the left's bank", x.tip(0, 1) * 10 + x.tip(0, 2), 12);
        CHECK.is("the right's bank", x.tip(1, 1) * 10 + x.tip(1, 2), 34);
        x.spring(-1, -1, 2);
        CHECK.is("of three yards the left builds the last", x.tip(0, 0) * 10 + x.tip(1, 0), 21);
    }

    private static void firstAtTheBank() {
        CHECK.sentence("A SIDE has YARDS, the first at its bank, each with a LINE and a HEIGHT (whole, also below 0);");
        for (int side = 0; side < 2; side++) {
            HalfBridge x = Told.at(CHECK, "wide 40;bank 0 1 1;bank 1 1 1;step 20");
            for (int i = 0; i < 40; i++) {
                CHECK.is("build " + i, x.build(side, -20, -19), true);
                CHECK.is("line of the first", x.yard(side, 0, 0), -19);
                CHECK.is("line of " + i, x.yard(side, i, 0), 1 - 20 * (i + 1));
                CHECK.is("height of " + i, x.yard(side, i, 1), 1 - 19 * (i + 1));
            }
            CHECK.is("the furthest line", x.tip(side, 1), -799);
            CHECK.is("it is MET", x.miss(2), 1);
        }
        HalfBridge x = Told.at(CHECK, "wide 2;step 1");
        x.build(0, 0, 0);
        x.build(1, -1, -1);
        CHECK.is("0", x.yard(0, 0, 0), 0);
        CHECK.is("-1", x.yard(1, 0, 0), -1);
        CHECK.is("-1", x.yard(1, 0, 1), -1);
    }

    private static void tips() {
        CHECK.sentence("its TIP is the last one, or its bank, if it has none.");
        for (int side = 0; side < 2; side++) {
            HalfBridge x = Told.at(CHECK, "wide 9;bank 0 50 40;bank 1 30 20;step 2");
            int line = side == 0 ? 50 : 30;
            CHECK.is("none: the bank's line", x.tip(side, 1), line);
            CHECK.is("none: the bank's height", x.tip(side, 2), line - 10);
            x.build(side, 1, 2);
            CHECK.is("one", x.tip(side, 1), line + 1);
            CHECK.is("one", x.tip(side, 2), line - 8);
            x.build(side, 1, -2);
            CHECK.is("two", x.tip(side, 1), line + 2);
            CHECK.is("two", x.tip(side, 2), line - 10);
            x.pull(side);
            CHECK.is("one again", x.tip(side, 2), line - 8);
            x.pull(side);
            CHECK.is("the bank again", x.tip(side, 1), line);
        }
    }

    private static void gap() {
        CHECK.sentence("GAP: how many yards are not built.");
        HalfBridge x = Told.at(CHECK, "wide 3");
        for (int gap = 3; gap > 0; gap--) {
            CHECK.is("GAP", x.count(1), gap);
            CHECK.is("not MET by " + gap, x.miss(2), 0);
            CHECK.is("build", x.build(gap % 2, 0, 0), true);
        }
        CHECK.sentence("It is MET when the GAP is 0.");
        CHECK.is("GAP", x.count(1), 0);
        CHECK.is("MET", x.miss(2), 1);
        CHECK.is("no DAY", x.spring(-1, -1, 9), 0);
        x.pull(0);
        CHECK.is("GAP 1", x.count(1), 1);
        CHECK.is("not MET", x.miss(2), 0);
        CHECK.is("a DAY", x.spring(-1, -1, 9), 1);
    }

    private static void turns() {
        CHECK.sentence("TURN and RISE of a YARD: by how much its LINE and HEIGHT are more than those of the one ahead of it"
                + " (the bank's, for the first).");
        HalfBridge x = Told.at(CHECK, "wide 9;bank 0 50 40;bank 1 30 20;step 7");
        x.build(0, 7, -7);
        x.build(0, 0, 0);
        x.build(0, -7, 7);
        x.build(1, -1, 1);
        int[] due = {7, -7, 0, 0, -7, 7};
        for (int i = 0; i < 6; i++) {
            CHECK.is("yard(0, " + i / 2 + ", " + (2 + i % 2) + ")", x.yard(0, i / 2, 2 + i % 2), due[i]);
        }
        CHECK.is("the first of the right", x.yard(1, 0, 2), -1);
        CHECK.is("the first of the right", x.yard(1, 0, 3), 1);
    }

    private static void crooked() {
        CHECK.sentence("CROOKED is a SIDE by all its TURNS and RISES together, each as if above 0.");
        HalfBridge x = Told.at(CHECK, "wide 9;bank 0 50 40;bank 1 30 20;step 7");
        CHECK.is("no YARDS", x.tip(0, 3), 0);
        x.build(0, -7, 0);
        CHECK.is("a TURN", x.tip(0, 3), 7);
        x.build(0, 7, 0);
        CHECK.is("there and back", x.tip(0, 3), 14);
        x.build(0, 0, -3);
        CHECK.is("a RISE", x.tip(0, 3), 17);
        x.build(0, 1, 1);
        CHECK.is("both", x.tip(0, 3), 19);
        CHECK.is("the other", x.tip(1, 3), 0);
        x.build(1, 0, 0);
        CHECK.is("straight", x.tip(1, 3), 0);
        x.pull(0);
        CHECK.is("of what stands", x.tip(0, 3), 17);
    }

    private static void yard() {
        CHECK.sentence("Of a SIDE's YARD (from 0 on, from the bank) what 0: LINE, 1: HEIGHT, 2: TURN, 3: RISE;"
                + " -100000 without these.");
        HalfBridge x = Told.at(CHECK, "wide 9;bank 0 50 40;bank 1 30 20;step 7");
        x.build(0, 1, 2);
        x.build(0, 3, 4);
        x.build(1, 5, 6);
        int[] due = {51, 42, 1, 2, 54, 46, 3, 4, NO, NO, NO, NO};
        for (int i = 0; i < 12; i++) {
            CHECK.is("yard(0, " + i / 4 + ", " + i % 4 + ")", x.yard(0, i / 4, i % 4), due[i]);
        }
        int[] right = {35, 26, 5, 6, NO, NO, NO, NO};
        for (int i = 0; i < 8; i++) {
            CHECK.is("yard(1, " + i / 4 + ", " + i % 4 + ")", x.yard(1, i / 4, i % 4), right[i]);
        }
        x.pull(1);
        CHECK.is("pulled down", x.yard(1, 0, 0), NO);
    }

    private static void yardBounds() {
        int lefts = Rich.told().tip(0, 0);
        int rights = Rich.told().tip(1, 0);
        for (int what = 0; what < 4; what++) {
            int w = what;
            for (int yard : Rich.beyond(0, lefts - 1)) {
                TOLD.refuses("yard " + yard + " of the left", x -> x.yard(0, yard, w), NO);
            }
            for (int yard : Rich.beyond(0, rights - 1)) {
                TOLD.refuses("yard " + yard + " of the right", x -> x.yard(1, yard, w), NO);
            }
            BARE.refuses("no RIVER: yard", x -> x.yard(0, 0, w), NO);
        }
        for (int what : Rich.beyond(0, 3)) {
            TOLD.refuses("yard, what " + what, x -> x.yard(0, 0, what), NO);
            TOLD.refuses("yard, what " + what, x -> x.yard(1, rights - 1, what), NO);
        }
        for (int yard : new int[] {39, 40, 41, 79, 80, 81}) {
            TOLD.refuses("yard " + yard, x -> x.yard(0, yard, 0), NO);
            TOLD.refuses("yard " + yard, x -> x.yard(1, yard, 0), NO);
        }
    }

    private static void tipBounds() {
        CHECK.sentence("Of a SIDE what 0: YARDS, 1: LINE of its TIP, 2: HEIGHT of it, 3: CROOKED, 4: LINE SEEN of the other TIP"
                + " now, 5: HEIGHT SEEN, 6: eyes; -100000 without these (no RIVER).");
        HalfBridge x = Told.at(CHECK, "wide 20;bank 0 50 40;bank 1 30 20;eyes 0 9;eyes 1 5;step 7");
        x.err(0, 0, 9);
        x.err(1, 0, -9);
        x.build(0, 1, -2);
        x.build(0, 3, -4);
        // 9 * 9 * 18 / 90 is 16, -9 * 5 * 18 / 90 is -9.
        int[] due = {2, 54, 34, 10, 46, 4, 9, 0, 30, 20, 0, 45, 43, 5};
        for (int i = 0; i < 14; i++) {
            CHECK.is("tip(" + i / 7 + ", " + i % 7 + ")", x.tip(i / 7, i % 7), due[i]);
        }
        for (int what : Rich.beyond(0, 6)) {
            TOLD.refuses("tip, what " + what, y -> y.tip(0, what), NO);
            TOLD.refuses("tip, what " + what, y -> y.tip(1, what), NO);
        }
        for (int what = 0; what < 7; what++) {
            int w = what;
            BARE.refuses("no RIVER: tip, what " + what, y -> y.tip(0, w), NO);
            BARE.refuses("no RIVER: tip, what " + what, y -> y.tip(1, w), NO);
        }
    }

    private static void errors() {
        CHECK.sentence("An ERROR of a SIDE (place 0 to 7) becomes n: what it was; -100000, and nothing happens, without these"
                + " (no RIVER).");
        for (int side = 0; side < 2; side++) {
            int s = side;
            for (int place : Rich.beyond(0, 7)) {
                TOLD.refuses("err at place " + place, x -> x.err(s, place, 5), NO);
            }
            for (int place : new int[] {8, 15, 16, 17, -8, -16}) {
                TOLD.refuses("err at place " + place, x -> x.err(s, place, 5), NO);
            }
            for (int n : Rich.beyond(-9, 9)) {
                TOLD.refuses("err of " + n, x -> x.err(s, 4, n), NO);
            }
            for (int place = 0; place < 8; place++) {
                int p = place;
                BARE.refuses("no RIVER: err", x -> x.err(s, p, 0), NO);
            }
            TOLD.changes("err of 9", x -> x.err(s, 4, 9), 0);
            TOLD.changes("err of -9", x -> x.err(s, 4, -9), 0);
        }
    }

    private static void errorsOneByOne() {
        CHECK.sentence("ERRORS: of each SIDE 8 numbers (-9 to 9; 0 at first), told.");
        HalfBridge x = Told.at(CHECK, "wide 9");
        for (int i = 0; i < 16; i++) {
            CHECK.is("0 at first", x.err(i / 8, i % 8, i - 7), 0);
        }
        for (int i = 0; i < 16; i++) {
            CHECK.is("err(" + i / 8 + ", " + i % 8 + ")", x.err(i / 8, i % 8, -9), i - 7);
        }
        for (int n = -9; n <= 9; n++) {
            CHECK.is("what it was", x.err(1, 7, n), n == -9 ? -9 : n - 1);
        }
        for (int i = 0; i < 15; i++) {
            CHECK.is("the others stay", x.err(i / 8, i % 8, 0), -9);
        }
        CHECK.is("the last one", x.err(1, 7, 0), 9);
    }

    private static void seenByError() {
        CHECK.sentence("SEEN by a SIDE on a day: the LINE of the other TIP, and ERROR (that at the day's rest by 8) * its eyes"
                + " * GAP / 90 (towards 0), together;");
        for (int eyes = 0; eyes <= 9; eyes++) {
            for (int gap : new int[] {0, 1, 2, 9, 10, 11, 20, 39, 40}) {
                HalfBridge x = Told.at(CHECK, "wide 40;bank 0 7 8;bank 1 5 6;eyes 0 " + eyes + ";eyes 1 " + eyes);
                for (int i = 40; i > gap; i--) {
                    x.build(0, 0, 0);
                }
                for (int error = -9; error <= 9; error++) {
                    x.err(0, 0, error);
                    x.err(1, 0, -error);
                    int size = Math.abs(error) * eyes * gap / 90;
                    int by = error < 0 ? -size : size;
                    String when = "by " + error + ", " + eyes + ", " + gap;
                    CHECK.is("line " + when, x.tip(0, 4), 5 + by);
                    CHECK.is("height " + when, x.tip(0, 5), 6 - by);
                    CHECK.is("the right's line " + when, x.tip(1, 4), 7 - by);
                    CHECK.is("the right's height " + when, x.tip(1, 5), 8 + by);
                }
            }
        }
        CHECK.sentence("the HEIGHT likewise, with the ERROR the other way.");
        HalfBridge x = Told.at(CHECK, "wide 10;eyes 0 9");
        int[][] due = {{-1, -1, 1}, {1, 1, -1}, {0, 0, 0}};
        for (int[] d : due) {
            x.err(0, 0, d[0]);
            CHECK.is("90 / 90", x.tip(0, 4), d[1]);
            CHECK.is("90 / 90", x.tip(0, 5), d[2]);
        }
        x.build(1, 0, 0);
        for (int[] d : due) {
            x.err(0, 0, d[0]);
            CHECK.is("81 / 90", x.tip(0, 4), 0);
            CHECK.is("81 / 90", x.tip(0, 5), 0);
        }
    }

    private static void restByEight() {
        HalfBridge x = Told.at(CHECK, "wide 40;eyes 0 9;eyes 1 9", "wait 1=1");
        for (int place = 0; place < 8; place++) {
            x.err(0, place, place + 1);
            x.err(1, place, -place - 1);
        }
        for (int day = 0; day < 26; day++) {
            CHECK.is("line seen on day " + day, x.tip(0, 4), 4 * (day % 8 + 1));
            CHECK.is("height seen on day " + day, x.tip(1, 5), 4 * (day % 8 + 1));
            x.spring(0, 0, 1);
        }
        for (int i = 0; i < 49; i++) {
            x.spring(0, 0, 200);
        }
        CHECK.is("line seen on day 9826", x.tip(0, 4), 4 * (9826 % 8 + 1));
        x.spring(0, 0, 173);
        CHECK.is("line seen on day 9999", x.tip(0, 4), 4 * (9999 % 8 + 1));
    }

    private static void byHand() {
        CHECK.sentence("BY HAND a SIDE builds a YARD (TURN, RISE -step to step each, GAP above 0), or pulls its last one down.");
        for (int step : new int[] {1, 3, 20}) {
            for (int side = 0; side < 2; side++) {
                HalfBridge x = Told.at(CHECK, "wide 10;bank 0 50 50;bank 1 50 50;step " + step);
                int[][] wrong = {{step + 1, 0}, {-step - 1, 0}, {0, step + 1}, {0, -step - 1}, {step + 1, step + 1}};
                for (int[] w : wrong) {
                    CHECK.is("build by " + w[0] + ", " + w[1], x.build(side, w[0], w[1]), false);
                    CHECK.is("GAP", x.count(1), 10);
                }
                int[][] right = {{step, 0}, {-step, 0}, {0, step}, {0, -step}, {step, step}, {-step, -step}};
                for (int i = 0; i < 6; i++) {
                    CHECK.is("build", x.build(side, right[i][0], right[i][1]), true);
                    CHECK.is("its TURN", x.yard(side, i, 2), right[i][0]);
                    CHECK.is("its RISE", x.yard(side, i, 3), right[i][1]);
                    CHECK.is("GAP", x.count(1), 9 - i);
                }
                CHECK.is("the other", x.tip(1 - side, 0), 0);
                CHECK.is("no day goes by", x.count(2), 0);
            }
        }
    }

    private static void build() {
        CHECK.sentence("BY HAND: true; false, and nothing happens, without these.");
        for (int side = 0; side < 2; side++) {
            int s = side;
            for (int by : Rich.beyond(-3, 3)) {
                TOLD.refuses("build by TURN " + by, x -> x.build(s, by, 0) ? 1 : 0, 0);
                TOLD.refuses("build by RISE " + by, x -> x.build(s, 0, by) ? 1 : 0, 0);
            }
            for (int by : new int[] {-3, 0, 3}) {
                TOLD.changes("build by TURN " + by, x -> x.build(s, by, 0) ? 1 : 0, 1);
                TOLD.changes("build by RISE " + by, x -> x.build(s, 0, by) ? 1 : 0, 1);
                MET.refuses("MET: build by " + by, x -> x.build(s, by, by) ? 1 : 0, 0);
            }
            BARE.refuses("no RIVER: build", x -> x.build(s, 0, 0) ? 1 : 0, 0);
            HalfBridge x = Told.at(CHECK, "wide 2");
            CHECK.is("GAP 2", x.build(side, 0, 0), true);
            CHECK.is("GAP 1", x.build(side, 0, 0), true);
            CHECK.is("GAP 0", x.build(side, 0, 0), false);
            CHECK.is("GAP 0", x.build(1 - side, 0, 0), false);
        }
    }

    private static void pull() {
        CHECK.sentence("BY HAND: true; false, and nothing happens: there is no YARD.");
        for (int side = 0; side < 2; side++) {
            int s = side;
            HalfBridge x = Told.at(CHECK, "wide 9");
            x.build(1 - side, 1, 1);
            CHECK.is("no YARD", x.pull(side), false);
            x.build(side, 1, 1);
            x.build(side, -1, 1);
            CHECK.is("the last of two", x.pull(side), true);
            CHECK.is("one is left", x.tip(side, 1), 1);
            CHECK.is("the last of one", x.pull(side), true);
            CHECK.is("no YARD", x.pull(side), false);
            CHECK.is("none", x.tip(side, 0), 0);
            CHECK.is("the other's stays", x.tip(1 - side, 0), 1);
            BARE.refuses("no RIVER: pull", y -> y.pull(s) ? 1 : 0, 0);
            new Rich(CHECK, () -> without(s)).refuses("no YARD: pull", y -> y.pull(s) ? 1 : 0, 0);
            TOLD.changes("pull", y -> y.pull(s) ? 1 : 0, 1);
            MET.changes("pull of what is MET", y -> y.pull(s) ? 1 : 0, 1);
        }
    }

    /** As told, but with no YARDS of a SIDE. */
    private static HalfBridge without(int side) {
        HalfBridge x = Rich.told();
        for (int i = x.tip(side, 0); i > 0; i--) {
            x.pull(side);
        }
        return x;
    }

    private static void miss() {
        CHECK.sentence("MISS: by how much LINES of both TIPS differ, and HEIGHTS.");
        HalfBridge x = Told.at(CHECK, "wide 9;bank 0 10 20;bank 1 14 13;step 9");
        CHECK.is("of banks", x.miss(0) * 100 + x.miss(1), 407);
        x.build(0, 4, -7);
        CHECK.is("none", x.miss(0) * 100 + x.miss(1), 0);
        x.build(0, 1, -1);
        CHECK.is("the other way", x.miss(0) * 100 + x.miss(1), 101);
        x.build(1, 9, -9);
        CHECK.is("by the right", x.miss(0) * 100 + x.miss(1), 808);
        CHECK.sentence("IN TIME: MET with both MISSES at most inches.");
        for (int inches : new int[] {0, 1, 5, 99}) {
            for (int line = Math.max(0, inches - 1); line <= Math.min(99, inches + 1); line++) {
                for (int height = Math.max(0, inches - 1); height <= Math.min(99, inches + 1); height++) {
                    x = Told.at(CHECK, "wide 2;bank " + line % 2 + " " + line + " 0;bank " + (1 - line % 2) + " 0 " + height
                            + ";inches " + inches);
                    CHECK.is("not MET", x.miss(3), 0);
                    x.build(0, 0, 0);
                    CHECK.is("not MET", x.miss(3), 0);
                    x.build(1, 0, 0);
                    CHECK.is("misses " + line + ", " + height + " of " + inches, x.miss(3),
                            line <= inches && height <= inches ? 1 : 0);
                    CHECK.is("MET all the same", x.miss(2), 1);
                }
            }
        }
    }

    private static void missBounds() {
        CHECK.sentence("MISS what 0: of LINES, 1: of HEIGHTS, 2: 1 if it is MET, else 0, 3: 1 if IN TIME, else 0;"
                + " NONE without these.");
        HalfBridge x = Told.at(CHECK, "wide 2;bank 0 9 0;bank 1 2 5;inches 7");
        int[][] due = {{7, 5, 0, 0}, {7, 5, 0, 0}, {7, 5, 1, 1}};
        for (int built = 0; built <= 2; built++) {
            for (int what = 0; what < 4; what++) {
                CHECK.is("miss(" + what + ") of " + built, x.miss(what), due[built][what]);
            }
            x.build(built, 0, 0);
        }
        for (int what : Rich.beyond(0, 3)) {
            TOLD.refuses("miss(" + what + ")", y -> y.miss(what), -1);
            MET.refuses("miss(" + what + ")", y -> y.miss(what), -1);
        }
        for (int what = 0; what < 4; what++) {
            int w = what;
            BARE.refuses("no RIVER: miss(" + what + ")", y -> y.miss(w), -1);
        }
    }
}
