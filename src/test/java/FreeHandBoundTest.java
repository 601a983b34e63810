/** STRAIGHT and SPITE (part III of the document, promises 16 and 17), at each bound that it tells. */
final class FreeHandBoundTest {
    private static final Check CHECK = new Check("FreeHandBoundTest");
    private static final Rich TOLD = new Rich(CHECK, Rich::told);
    private static final Rich MET = new Rich(CHECK, Rich::met);
    private static final Rich BARE = new Rich(CHECK, Rich::bare);
    private static final int NO = -100000;

    public static void main(String[] args) {
        turns();
        noneWithoutGap();
        sixDays();
        throughFloods();
        least();
        first();
        straightRefused();
        fourDays();
        tillMet();
        purse();
        firstOfSpite();
        spiteRefused();
        CHECK.close();
    }

    /** All answers: the least and the row, -100 behind its end; or one answer for all. */
    private static void straight(HalfBridge x, int side, int rule, int... due) {
        for (int what = 0; what <= 6; what++) {
            int want = due.length == 1 ? due[0] : what < due.length ? due[what] : -100;
            CHECK.is("straight(" + side + ", " + rule + ", " + what + ")", x.straight(side, rule, what), want);
        }
    }

    private static void spite(HalfBridge x, int side, int rule, int c, int... due) {
        for (int what = 0; what <= 4; what++) {
            CHECK.is("spite(" + side + ", " + rule + ", " + c + ", " + what + ")", x.spite(side, rule, c, what),
                    what < due.length ? due[what] : -100);
        }
    }

    private static HalfBridge waiting(String river) {
        return Told.at(CHECK, river, "wait 1=1");
    }

    private static void turns() {
        CHECK.sentence("STRAIGHT: one SIDE builds each day as it likes (a YARD, TURN from -step to step, and from -2 to 2; RISE 0;"
                + " if the GAP is 0 at its turn, none), the other one by a RULE,");
        for (int step : new int[] {1, 2, 3, 20}) {
            int reach = Math.min(2, step);
            String river = "wide 2;step " + step + ";bank ";
            for (int side = 0; side < 2; side++) {
                int other = 1 - side;
                straight(waiting(river + other + " " + 2 * reach + " 0"), side, 0, 2 * reach, reach, reach);
                straight(waiting(river + other + " " + (2 * reach + 1) + " 0"), side, 0, -2);
                straight(waiting(river + side + " " + 2 * reach + " 0"), side, 0, 2 * reach, -reach, -reach);
                straight(waiting(river + side + " " + (2 * reach + 1) + " 0"), side, 0, -2);
                straight(waiting(river + side + " 0 1"), side, 0, -2);
                straight(waiting(river + side + " 0 1;inches 1"), side, 0, 0, 0, 0);
            }
        }
    }

    private static void noneWithoutGap() {
        // The left closes the GAP on the second day ahead of the right.
        straight(Told.at(CHECK, "wide 3;bank 1 1 0"), 1, -1, 1, -1);
        straight(Told.at(CHECK, "wide 3;bank 1 1 0"), 0, -1, 1, 0, 1);
        straight(Told.at(CHECK, "wide 4;bank 1 1 0"), 1, -1, 1, -1, 0);
        HalfBridge x = Told.at(CHECK, "wide 2;bank 1 1 0");
        x.build(1, 0, 0);
        straight(x, 1, -1, -2);
        x = Told.at(CHECK, "wide 2;bank 1 1 0;inches 1");
        x.build(1, 0, 0);
        // No YARD of its own on the one day that there is.
        straight(x, 1, -1, 0, -100);
    }

    private static void sixDays() {
        CHECK.sentence("6 DAYS at most, till it is MET (FLOODS as told):");
        straight(waiting("wide 5;bank 1 5 0"), 0, 0, 5, 1, 1, 1, 1, 1);
        straight(waiting("wide 6;bank 1 6 0"), 0, 0, 6, 1, 1, 1, 1, 1, 1);
        straight(waiting("wide 7;bank 1 6 0;inches 9"), 0, 0, -2);
        straight(Told.at(CHECK, "wide 12;bank 1 6 0"), 0, -1, 6, 1, 1, 1, 1, 1, 1);
        straight(Told.at(CHECK, "wide 12;bank 0 6 0"), 1, -1, 6, 1, 1, 1, 1, 1, 1);
        straight(Told.at(CHECK, "wide 11;bank 0 5 0"), 1, -1, 5, 1, 1, 1, 1, 1);
        straight(Told.at(CHECK, "wide 13;inches 9"), 0, -1, -2);
        straight(Told.at(CHECK, "wide 13;inches 9"), 1, -1, -2);
        HalfBridge x = Told.at(CHECK, "wide 13;inches 9");
        x.spring(-1, -1, 1);
        straight(x, 0, -1, 0, 0, 0, 0, 0, 0, 0);
        straight(Told.at(CHECK, "wide 2;bank 1 2 0"), 0, -1, -2);
        straight(Told.at(CHECK, "wide 2;bank 1 1 0"), 0, -1, 1, 1);
        // No DAY comes behind that on which it is MET, so that the other one pulls nothing down, and no flood comes.
        straight(Told.at(CHECK, "wide 2", "pull yards=1"), 0, 0, 0, 0);
        straight(Told.at(CHECK, "wide 2", "pull yards=1"), 1, 0, 0, 0);
        straight(Told.at(CHECK, "wide 2;flood 1 1"), 0, -1, 0, 0);
    }

    private static void throughFloods() {
        straight(Told.at(CHECK, "wide 12;flood 5 1"), 0, -1, -2);
        straight(Told.at(CHECK, "wide 12;flood 6 1"), 0, -1, 0, 0, 0, 0, 0, 0, 0);
        straight(Told.at(CHECK, "wide 10;flood 0 1"), 0, -1, 0, 0, 0, 0, 0, 0, 0);
        straight(Told.at(CHECK, "wide 11;flood 0 1"), 0, -1, -2);
        // The flood of day 1 takes the second day's YARD: a TURN on it would be in vain.
        straight(Told.at(CHECK, "wide 6;bank 1 3 0;flood 1 1"), 0, -1, 3, 1, 0, 1, 1);
        straight(Told.at(CHECK, "wide 3;bank 1 1 0;flood 1 1"), 1, -1, 1, 0, -100, -1);
    }

    private static void least() {
        CHECK.sentence("the least TURNS of its own (all as if above 0, together) by which it is IN TIME;");
        for (int inches = 0; inches <= 4; inches++) {
            int least = Math.max(0, 3 - inches);
            HalfBridge x = waiting("wide 3;bank 1 3 0;inches " + inches);
            CHECK.is("3 with inches " + inches, x.straight(0, 0, 0), least);
            x = waiting("wide 3;bank 0 3 0;inches " + inches);
            CHECK.is("-3 with inches " + inches, x.straight(0, 0, 0), least);
        }
        straight(waiting("wide 6;bank 1 12 0;step 2"), 0, 0, 12, 2, 2, 2, 2, 2, 2);
        straight(waiting("wide 6;bank 1 11 0;step 2"), 0, 0, 11, 1, 2, 2, 2, 2, 2);
        straight(waiting("wide 6;bank 1 13 0;step 2"), 0, 0, -2);
        straight(waiting("wide 6;bank 1 13 0;step 2;inches 1"), 0, 0, 12, 2, 2, 2, 2, 2, 2);
        // The other one comes to meet it, or runs away.
        straight(Told.at(CHECK, "wide 6;bank 1 4 0;step 2", "turn other-line"), 0, 0, 0, 0, 0, 0);
        straight(Told.at(CHECK, "wide 4;bank 1 1 0", "turn 1"), 0, 0, -2);
        straight(Told.at(CHECK, "wide 4;bank 1 1 0;step 2", "turn 1"), 0, 0, 3, 1, 2);
    }

    private static void first() {
        CHECK.sentence("the row of TURNS (of several the first: the lesser TURN ahead where they part).");
        straight(waiting("wide 3;bank 1 2 0;step 2"), 0, 0, 2, 0, 0, 2);
        straight(waiting("wide 3;bank 1 3 0;step 2"), 0, 0, 3, 0, 1, 2);
        straight(waiting("wide 3;bank 1 5 0;step 2"), 0, 0, 5, 1, 2, 2);
        straight(waiting("wide 3;bank 0 2 0;step 2"), 0, 0, 2, -2, 0, 0);
        straight(waiting("wide 3;bank 0 3 0;step 2"), 0, 0, 3, -2, -1, 0);
        straight(waiting("wide 3;bank 0 1 0;step 1"), 1, 0, 1, 0, 0, 1);
        straight(waiting("wide 6;bank 1 1 0"), 0, 0, 1, 0, 0, 0, 0, 0, 1);
        straight(waiting("wide 6;bank 0 1 0"), 0, 0, 1, -1, 0, 0, 0, 0, 0);
    }

    private static void straightRefused() {
        CHECK.sentence("STRAIGHT what 0: the least, 1 to 6: the TURN on that day (-100: none then); -2: it can't be;"
                + " -100000 without these (a RULE, or NONE; it is MET).");
        for (int what : Rich.beyond(0, 6)) {
            TOLD.refuses("straight, what " + what, x -> x.straight(0, 0, what), NO);
        }
        for (int rule : Rich.noRules()) {
            TOLD.refuses("straight by RULE " + rule, x -> x.straight(0, rule, 0), NO);
            TOLD.refuses("straight by RULE " + rule, x -> x.straight(1, rule, 6), NO);
        }
        for (int what = 0; what <= 6; what++) {
            int w = what;
            MET.refuses("MET: straight, what " + what, x -> x.straight(0, 0, w), NO);
            MET.refuses("MET: straight, what " + what, x -> x.straight(1, -1, w), NO);
            BARE.refuses("no RIVER: straight, what " + what, x -> x.straight(0, 0, w), NO);
            BARE.refuses("no RIVER: straight, what " + what, x -> x.straight(1, -1, w), NO);
        }
        HalfBridge x = Told.at(CHECK, "wide 2");
        x.build(0, 0, 0);
        CHECK.is("GAP 1", x.straight(0, -1, 0), 0);
        x.build(0, 0, 0);
        CHECK.is("GAP 0", x.straight(0, -1, 0), NO);
    }

    private static void fourDays() {
        CHECK.sentence("SPITE: likewise, till it is MET or 4 DAYS are over:");
        HalfBridge x = Told.at(CHECK, "wide 40;step 9", "turn 1;rise 2", "wait day<3;turn 9", "wait day<4;turn 9");
        spite(x, 0, 0, 0, 12, 0, 0, 0, 0);
        spite(x, 1, 0, 0, 12, 0, 0, 0, 0);
        spite(x, 0, 1, 0, 9, 0, 0, 0, 0);
        spite(x, 0, 2, 0, 0, 0, 0, 0, 0);
        x.build(1, 1, -1);
        x.build(0, 9, -9);
        spite(x, 0, 2, 0, 2, 0, 0, 0, 0);
        // As it turns in -step to step and in -2 to 2, too.
        spite(Told.at(CHECK, "wide 40;step 1", "turn other-line"), 0, 0, 8, 3, -1, -1, -1, -1);
        spite(Told.at(CHECK, "wide 40;step 2", "turn other-line"), 0, 0, 8, 6, -2, -2, -2, -2);
        spite(Told.at(CHECK, "wide 40;step 20", "turn other-line"), 1, 0, 8, 6, -2, -2, -2, -2);
        // Floods as told: the last one takes two of the other's four YARDS.
        spite(Told.at(CHECK, "wide 40;flood 3 2", "turn 1"), 0, 0, 0, 2, 0, 0, 0, 0);
        spite(Told.at(CHECK, "wide 40;flood 4 2", "turn 1"), 0, 0, 0, 4, 0, 0, 0, 0);
    }

    private static void tillMet() {
        spite(Told.at(CHECK, "wide 2", "turn 1"), 0, 0, 0, 1, 0);
        spite(Told.at(CHECK, "wide 4", "turn 1"), 0, 0, 0, 2, 0, 0);
        spite(Told.at(CHECK, "wide 8", "turn 1"), 0, 0, 0, 4, 0, 0, 0, 0);
        spite(Told.at(CHECK, "wide 3", "turn 1"), 0, 0, 0, 1, 0, 0);
        spite(Told.at(CHECK, "wide 2", "pull yards=1;turn 1"), 0, 0, 0, 1, 0);
        spite(Told.at(CHECK, "wide 2;flood 1 1", "turn 1"), 1, 0, 0, 1, 0);
        // The right is free: the left closes the GAP of the second day, and the right builds none then.
        spite(Told.at(CHECK, "wide 3", "turn 1"), 1, 0, 0, 2, 0);
        CHECK.is("none then", Told.at(CHECK, "wide 3", "turn 1").spite(1, 0, 0, 2), -100);
        spite(Told.at(CHECK, "wide 3;flood 1 1", "turn 1"), 1, 0, 0, 2, 0, -100, 0);
        spite(Told.at(CHECK, "wide 3;flood 1 1", "turn 1"), 1, 0, 3, 2, -1, -100, -1);
    }

    private static void purse() {
        CHECK.sentence("of rows with TURNS of at most c (0 to 8) together that by which the other one is CROOKED most then;");
        HalfBridge x = Told.at(CHECK, "wide 40;step 20", "turn other-line");
        int[][] due = {{0, 0, 0, 0, 0}, {1, -1, 0, 0, 0}, {2, -2, 0, 0, 0}, {3, -2, -1, 0, 0}, {4, -2, -2, 0, 0}, {5, -2, -2, -1, 0},
            {6, -2, -2, -2, 0}, {6, -2, -2, -2, -1}, {6, -2, -2, -2, -2}};
        for (int c = 0; c <= 8; c++) {
            spite(x, 0, 0, c, due[c]);
            spite(x, 1, 0, c, due[c]);
        }
    }

    private static void firstOfSpite() {
        CHECK.sentence("of several the first.");
        HalfBridge x = Told.at(CHECK, "wide 40;step 20", "turn 3 if other>0", "turn 3 if other<0", "turn 0", "turn 7 if other=2");
        spite(x, 0, 0, 1, 9, 1, 0, 0, 0);
        spite(x, 0, 1, 1, 9, -1, 0, 0, 0);
        spite(x, 0, 2, 8, 0, -2, -2, -2, -2);
        spite(x, 0, 2, 1, 0, -1, 0, 0, 0);
        spite(x, 0, 3, 2, 21, 2, 0, 0, 0);
        spite(x, 0, 3, 3, 21, 2, 0, 0, -1);
    }

    private static void spiteRefused() {
        CHECK.sentence("SPITE what 0: how CROOKED the other one is, 1 to 4: the TURN on that day (-100: none then);"
                + " -100000 without these (it is MET).");
        for (int what : Rich.beyond(0, 4)) {
            TOLD.refuses("spite, what " + what, x -> x.spite(0, 0, 4, what), NO);
        }
        for (int c : Rich.beyond(0, 8)) {
            TOLD.refuses("spite, c " + c, x -> x.spite(0, 0, c, 0), NO);
            TOLD.refuses("spite, c " + c, x -> x.spite(1, 1, c, 1), NO);
        }
        for (int rule : Rich.noRules()) {
            TOLD.refuses("spite by RULE " + rule, x -> x.spite(0, rule, 4, 0), NO);
            TOLD.refuses("spite by RULE " + rule, x -> x.spite(1, rule, 4, 4), NO);
        }
        for (int what = 0; what <= 4; what++) {
            int w = what;
            MET.refuses("MET: spite, what " + what, x -> x.spite(0, 0, 4, w), NO);
            MET.refuses("MET: spite, what " + what, x -> x.spite(1, -1, 4, w), NO);
            BARE.refuses("no RIVER: spite, what " + what, x -> x.spite(0, 0, 4, w), NO);
            BARE.refuses("no RIVER: spite, what " + what, x -> x.spite(1, -1, 4, w), NO);
        }
        HalfBridge x = Told.at(CHECK, "wide 2");
        x.build(0, 0, 0);
        CHECK.is("GAP 1", x.spite(0, -1, 0, 0), 0);
        x.build(1, 0, 0);
        CHECK.is("GAP 0", x.spite(0, -1, 0, 0), NO);
    }
}
