/** Promises 13 to 18: what is asked ahead, with nothing changed by it. */
final class AheadTest {
    private static final Check CHECK = new Check("AheadTest");
    private static final int NO = -100000;

    public static void main(String[] args) {
        ahead();
        zigzag();
        longZigzags();
        whatever();
        straight();
        straightOfTheRight();
        straightThroughFloods();
        spite();
        mend();
        nothingChanges();
        CHECK.close();
    }

    private static void ahead() {
        HalfBridge x = Told.at(CHECK, "wide 6;bank 0 10 5;bank 1 4 6;step 2;inches 2",
                "turn other - line;rise 1 - side", "wait 1 = 1");
        int[] due = {3, 2, 2, 9, 6, 1};
        int[] behindTwo = {-2, 2, 1, 6, 4, 0};
        int[] now = {-2, 6, 1, 0, 0, 0};
        for (int what = 0; what < 6; what++) {
            CHECK.is("ahead 400, what " + what, x.ahead(0, 0, 400, what), due[what]);
            CHECK.is("ahead 3, what " + what, x.ahead(0, 0, 3, what), due[what]);
            CHECK.is("ahead 2, what " + what, x.ahead(0, 0, 2, what), behindTwo[what]);
            CHECK.is("ahead 0, what " + what, x.ahead(0, 0, 0, what), now[what]);
            CHECK.is("never, what " + what, x.ahead(1, 1, 400, what), now[what]);
        }
        CHECK.is("what 6", x.ahead(0, 0, 1, 6), -1);
        CHECK.is("what -1", x.ahead(0, 0, 1, -1), -1);
        CHECK.is("401 days", x.ahead(0, 0, 401, 0), -1);
        CHECK.is("-1 days", x.ahead(0, 0, -1, 0), -1);
        CHECK.is("no rule 2", x.ahead(2, 0, 1, 0), -1);
        CHECK.is("no rule -2", x.ahead(0, -2, 1, 0), -1);
        x.spring(0, 0, 2);
        CHECK.is("as day then is", x.ahead(0, 0, 400, 0), 3);
        x.spring(0, 0, 2);
        CHECK.is("met now", x.ahead(0, 0, 0, 0), 3);
        CHECK.is("met now", x.ahead(1, 1, 400, 0), 3);
        CHECK.is("in time now", x.ahead(1, 1, 400, 5), 1);
    }

    private static void zigzag(HalfBridge x, int left, int right, int leadIn, int period) {
        CHECK.is("lead-in", x.zigzag(left, right, 0), leadIn);
        CHECK.is("period", x.zigzag(left, right, 1), period);
    }

    private static void zigzag() {
        HalfBridge x = Told.at(CHECK, "wide 10;flood 0 9;flood 1 9;eyes 0 9", "pull yards > 1", "wait 1 = 1", "wait day > 2",
                "turn other - line;pull yards = 1", "wait day = 0");
        zigzag(x, 0, 1, 1, 2);
        zigzag(x, 1, 1, 0, 1);
        zigzag(x, -1, -1, 5, 1);
        zigzag(x, 2, 2, 5, 1);
        zigzag(x, 4, 4, 0, 1);
        zigzag(x, 0, 0, 1, 2);
        zigzag(x, 3, 1, 0, 2);
        x.err(0, 0, 9);
        zigzag(x, 3, 1, 0, 2);
        CHECK.is("what 2", x.zigzag(0, 0, 2), -1);
        CHECK.is("what -1", x.zigzag(0, 0, -1), -1);
        CHECK.is("no rule 5", x.zigzag(5, 0, 0), -1);
        CHECK.is("no rule -2", x.zigzag(0, -2, 0), -1);
        CHECK.is("met", x.ahead(-1, -1, 400, 0), 7);
        x.spring(-1, -1, 200);
        zigzag(x, 0, 0, 0, 1);
        // On each day of 8 the ERROR is another one, but each day sees that of this day.
        x = Told.at(CHECK, "wide 40;eyes 0 9;step 9", "pull yards > 2;turn other", "wait 1 = 1");
        for (int place = 0; place < 8; place++) {
            x.err(0, place, place);
        }
        zigzag(x, 0, 1, 2, 2);
        x = Told.at(CHECK, "wide 40", "pull other = 1;wait yards = 3", "pull other = 0 and yards > 0;turn 1");
        zigzag(x, 0, 1, 0, 2);
    }

    /** YARDS that come again late, or not within 300 days; the plain model tells how late. */
    private static void longZigzags() {
        String[][] runs = {
            {"wide 32;bank 1 3 2;step 3",
                "pull line<1+tall and yards>other;wait 3<0-0 and yards>height*other;turn 3 - 3 if side<=height*height;"
                    + "turn 0-2;rise gap-0",
                "pull yards>height and gap<=yards;wait gap<=tall and other<3+1;turn other - 2 if other<=3;turn 0 - 1;"
                    + "rise 1-tall", "27", "42"},
            {"wide 37;bank 1 0 0;step 3",
                "pull tall<=side-2 and last<3;wait 0=yards and last<tall*gap;turn side - 0 if 3<height;turn 0 - 1;"
                    + "rise height-last",
                "pull tall<=yards or yards=tall+yards;wait 0=2-2 and yards<=gap+other;turn gap - 0 if 1<=tall;"
                    + "turn last + 1;rise yards-tall", "0", "86"}};
        for (String[] run : runs) {
            HalfBridge x = Told.at(CHECK, run[0], run[1], run[2]);
            zigzag(x, 0, 1, Integer.parseInt(run[3]), Integer.parseInt(run[4]));
        }
        lateOnes(Told.at(CHECK, "wide 32;bank 0 50 50;bank 1 55 40;step 3",
                "pull other*other*27/11-other*other*27/11/3*3=0 or gap<3;turn line*other*43/11-line*other*43/11/5*5-3;"
                    + "rise line*height*31/11-line*height*31/11/4*4-2",
                "pull other*other*48/11-other*other*48/11/3*3=0 or gap<3;turn tall*tall*82/11-tall*tall*82/11/5*5-3;"
                    + "rise line*height*20/11-line*height*20/11/4*4-1"));
        lateOnes(Told.at(CHECK, "wide 38;bank 0 50 50;bank 1 55 40;step 3",
                "pull line*other*35/10-line*other*35/10/3*3<2 or gap<3;turn other*line*35/10-other*line*35/10/5*5-3;"
                    + "rise line*other*36/10-line*other*36/10/4*4-2",
                "pull other*line*29/9-other*line*29/9/3*3<1 or gap<3;turn tall*line*57/9-tall*line*57/9/5*5-3;"
                    + "rise tall*other*13/9-tall*other*13/9/4*4-2"));
    }

    /** These RULES know no day: each day gone in earnest is one of LEAD-IN less. */
    private static void lateOnes(HalfBridge x) {
        CHECK.is("not within 300", x.zigzag(0, 1, 0), -2);
        CHECK.is("not within 300", x.zigzag(0, 1, 1), -2);
        int days = 0;
        while (x.zigzag(0, 1, 0) == -2 && days < 400) {
            x.spring(0, 1, 1);
            days++;
        }
        CHECK.is("the first within 300 comes again on the last of these", x.zigzag(0, 1, 0) + x.zigzag(0, 1, 1), 300);
    }

    private static void whatever() {
        HalfBridge x = Told.at(CHECK, "wide 2;bank 1 1 0;eyes 0 9;step 2", "turn other - line");
        CHECK.is("no days of errors", x.whatever(0, -1, 1, 0, 0, 9), 1);
        CHECK.is("one: 0 alone is in time", x.whatever(0, -1, 1, 0, 1, 9), 1);
        CHECK.is("by 4 it sees right", x.whatever(0, -1, 1, 0, 1, 4), 3);
        CHECK.is("two: the second does nothing", x.whatever(0, -1, 1, 0, 2, 9), 3);
        CHECK.is("three", x.whatever(0, -1, 60, 0, 3, 9), 9);
        CHECK.is("of the other", x.whatever(0, -1, 60, 1, 3, 9), 27);
        CHECK.is("within 0 days", x.whatever(0, -1, 0, 0, 3, 9), 0);
        x.err(0, 0, 9);
        CHECK.is("by the told one", x.whatever(0, -1, 1, 0, 0, 9), 0);
        CHECK.is("in place of the told one", x.whatever(0, -1, 1, 0, 1, 9), 1);
        CHECK.is("of the other, by the told one", x.whatever(0, -1, 1, 1, 1, 9), 0);
        int[][] wrong = {{1, -1, 1, 0, 1, 9}, {0, -2, 1, 0, 1, 9}, {0, -1, -1, 0, 1, 9}, {0, -1, 61, 0, 1, 9},
            {0, -1, 1, 2, 1, 9}, {0, -1, 1, -1, 1, 9}, {0, -1, 1, 0, -1, 9}, {0, -1, 1, 0, 4, 9},
            {0, -1, 1, 0, 1, 0}, {0, -1, 1, 0, 1, 10}};
        for (int[] w : wrong) {
            CHECK.is("wrong", x.whatever(w[0], w[1], w[2], w[3], w[4], w[5]), -1);
        }
        x.spring(-1, -1, 1);
        CHECK.is("met, missed", x.whatever(0, -1, 1, 0, 3, 9), 0);
        x = Told.at(CHECK, "wide 2");
        x.spring(-1, -1, 1);
        CHECK.is("met in time", x.whatever(-1, -1, 0, 0, 3, 9), 27);
        // An ERROR in place of that of day 0 is not one of day 8.
        x = Told.at(CHECK, "wide 2;bank 1 1 0;eyes 0 9;step 2", "wait day < 8;turn other - line", "wait day < 8");
        CHECK.is("day 8 is seen as told", x.whatever(0, 1, 9, 0, 1, 9), 3);
        x.spring(0, 1, 7);
        CHECK.is("from this day on: the second", x.whatever(0, 1, 9, 0, 2, 9), 3);
        CHECK.is("from this day on: the first only", x.whatever(0, 1, 9, 0, 1, 9), 3);
    }

    private static void straight(HalfBridge x, int side, int rule, int... due) {
        for (int what = 0; what <= 6; what++) {
            int want = due.length == 1 ? due[0] : what < due.length ? due[what] : -100;
            CHECK.is("straight(" + side + ", " + rule + ", " + what + ")", x.straight(side, rule, what), want);
        }
    }

    private static void straight() {
        straight(Told.at(CHECK, "wide 4;bank 1 2 0"), 0, -1, 2, 1, 1);
        straight(Told.at(CHECK, "wide 4;bank 1 2 0;inches 1"), 0, -1, 1, 0, 1);
        straight(Told.at(CHECK, "wide 4;bank 1 2 0;inches 2"), 0, -1, 0, 0, 0);
        straight(Told.at(CHECK, "wide 4;bank 1 2 0;step 2"), 0, -1, 2, 0, 2);
        straight(Told.at(CHECK, "wide 4;bank 1 2 0;step 20"), 0, -1, 2, 0, 2);
        straight(Told.at(CHECK, "wide 4;bank 0 3 0;step 20"), 0, -1, 3, -2, -1);
        straight(Told.at(CHECK, "wide 4;bank 1 4 0;step 20"), 0, -1, 4, 2, 2);
        straight(Told.at(CHECK, "wide 4;bank 1 5 0;step 20"), 0, -1, -2);
        straight(Told.at(CHECK, "wide 4;bank 1 2 1"), 0, -1, -2);
        straight(Told.at(CHECK, "wide 4;bank 1 2 1;inches 1"), 0, -1, 1, 0, 1);
        straight(Told.at(CHECK, "wide 12;bank 1 1 0"), 0, -1, 1, 0, 0, 0, 0, 0, 1);
        straight(Told.at(CHECK, "wide 13;inches 99"), 0, -1, -2);
        straight(Told.at(CHECK, "wide 40;inches 99"), 1, -1, -2);
        straight(Told.at(CHECK, "wide 6;bank 1 9 0", "wait 1 = 1"), 0, 0, -2);
        straight(Told.at(CHECK, "wide 6;bank 1 9 0;step 2", "wait 1 = 1"), 0, 0, 9, 0, 1, 2, 2, 2, 2);
        HalfBridge x = Told.at(CHECK, "wide 4;bank 1 2 0", "turn 0 - 1");
        straight(x, 0, 0, 0, 0, 0);
        CHECK.is("what 7", x.straight(0, 0, 7), NO);
        CHECK.is("what -1", x.straight(0, 0, -1), NO);
        CHECK.is("side 2", x.straight(2, 0, 0), NO);
        CHECK.is("side -1", x.straight(-1, 0, 0), NO);
        CHECK.is("no rule 1", x.straight(0, 1, 0), NO);
        CHECK.is("no rule -2", x.straight(0, -2, 0), NO);
        x.spring(-1, -1, 9);
        CHECK.is("met", x.straight(0, 0, 0), NO);
    }

    private static void straightOfTheRight() {
        straight(Told.at(CHECK, "wide 3;bank 1 1 0"), 1, -1, 1, -1);
        HalfBridge x = Told.at(CHECK, "wide 3;bank 1 1 0");
        CHECK.is("none on the second day, as the left has closed the GAP", x.straight(1, -1, 2), -100);
        // The left sees the right's LINE of the day before.
        straight(Told.at(CHECK, "wide 4;bank 1 2 0;step 2", "turn other - line"), 1, 0, 0, 0, 0);
        straight(Told.at(CHECK, "wide 2;bank 1 2 0;step 2", "turn 1"), 1, 0, 1, -1);
    }

    private static void straightThroughFloods() {
        // Day 0: both build, MET, but the flood takes both; day 1 closes it.
        straight(Told.at(CHECK, "wide 2;bank 1 1 0;flood 0 1"), 0, -1, 1, 0, 1);
        // The right finds no GAP on day 1, the flood opens it again: none that day, a YARD on the third.
        straight(Told.at(CHECK, "wide 3;bank 1 1 0;flood 1 1"), 1, -1, 1, 0, -100, -1);
    }

    private static void spite(HalfBridge x, int side, int rule, int c, int... due) {
        for (int what = 0; what <= 4; what++) {
            CHECK.is("spite(" + side + ", " + rule + ", " + c + ", " + what + ")", x.spite(side, rule, c, what),
                    what < due.length ? due[what] : -100);
        }
    }

    private static void spite() {
        HalfBridge x = Told.at(CHECK, "wide 40;step 2", "turn other - line", "turn 1 if other > line", "wait 1 = 1");
        spite(x, 0, 0, 0, 0, 0, 0, 0, 0);
        spite(x, 0, 0, 2, 2, -2, 0, 0, 0);
        spite(x, 0, 0, 6, 6, -2, -2, -2, 0);
        spite(x, 0, 0, 7, 6, -2, -2, -2, -1);
        spite(x, 0, 0, 8, 6, -2, -2, -2, -2);
        spite(x, 1, 0, 1, 1, -1, 0, 0, 0);
        spite(x, 0, 1, 1, 1, 0, 0, 1, 0);
        spite(x, 0, 2, 0, 0, 0, 0, 0, 0);
        CHECK.is("c 9", x.spite(0, 0, 9, 0), NO);
        CHECK.is("c -1", x.spite(0, 0, -1, 0), NO);
        CHECK.is("what 5", x.spite(0, 0, 1, 5), NO);
        CHECK.is("what -1", x.spite(0, 0, 1, -1), NO);
        CHECK.is("side 2", x.spite(2, 0, 1, 0), NO);
        CHECK.is("no rule 3", x.spite(0, 3, 1, 0), NO);
        CHECK.is("no rule -2", x.spite(0, -2, 1, 0), NO);
        x.build(1, -1, 2);
        CHECK.is("all its YARDS count", x.spite(0, -1, 0, 0), 3);
        x = Told.at(CHECK, "wide 3;step 1", "turn other - line");
        spite(x, 1, 0, 3, 1, -1);
        x.spring(-1, -1, 9);
        CHECK.is("met", x.spite(0, 0, 1, 0), NO);
    }

    private static void mend(HalfBridge x, int left, int right) {
        CHECK.is("mend(0)", x.mend(0), left);
        CHECK.is("mend(1)", x.mend(1), right);
    }

    private static void mend() {
        HalfBridge x = Told.at(CHECK, "wide 6;bank 1 5 0");
        mend(x, 0, 0);
        for (int i = 0; i < 3; i++) {
            x.build(0, -1, 0);
        }
        mend(x, 2, 0);
        x = Told.at(CHECK, "wide 6;bank 0 5 0");
        for (int i = 0; i < 3; i++) {
            x.build(1, -1, 0);
        }
        mend(x, 0, 2);
        x = Told.at(CHECK, "wide 6;bank 1 5 0");
        for (int i = 0; i < 2; i++) {
            x.build(0, -1, 0);
            x.build(1, 1, 0);
        }
        mend(x, 1, 2);
        x = Told.at(CHECK, "wide 6;bank 1 0 5");
        for (int i = 0; i < 3; i++) {
            x.build(0, 0, -1);
        }
        mend(x, 2, 0);
        mend(Told.at(CHECK, "wide 6;bank 1 7 7"), 0, 0);
        mend(Told.at(CHECK, "wide 6;bank 1 8 7"), -2, -2);
        mend(Told.at(CHECK, "wide 6;bank 1 7 8"), -2, -2);
        mend(Told.at(CHECK, "wide 6;bank 0 99 0;step 14"), -2, -2);
        mend(Told.at(CHECK, "wide 6;bank 0 98 0;step 14"), 0, 0);
        x = Told.at(CHECK, "wide 2;bank 1 1 0");
        x.spring(-1, -1, 1);
        mend(x, 0, 0);
        x = Told.at(CHECK, "wide 2;bank 1 2 0");
        x.spring(-1, -1, 1);
        mend(x, 0, 1);
        CHECK.is("what 2", x.mend(2), -1);
        CHECK.is("what -1", x.mend(-1), -1);
    }

    private static void nothingChanges() {
        HalfBridge x = Told.at(CHECK, "wide 9;bank 1 3 1;eyes 0 9;eyes 1 9;step 2", "turn other - line;rise tall - height");
        x.seed(5);
        x.err(0, 1, 7);
        x.ruin(0, 1, 1);
        x.spring(0, 0, 1);
        String before = all(x);
        x.ahead(0, 0, 400, 0);
        x.zigzag(0, 0, 0);
        x.whatever(0, 0, 60, 0, 3, 9);
        x.straight(0, 0, 0);
        x.spite(1, 0, 8, 0);
        x.mend(0);
        x.erred(0, 0, 3, 9, 0);
        x.tried(0, 0, 20, 200, 50, 0);
        CHECK.is("all is as it was", all(x).equals(before), true);
    }

    private static String all(HalfBridge x) {
        StringBuilder b = new StringBuilder();
        for (int i = 0; i < 80; i++) {
            b.append(x.yard(i / 40, i % 40, 0)).append(' ').append(x.yard(i / 40, i % 40, 1)).append(' ');
        }
        for (int i = 0; i < 14; i++) {
            b.append(x.tip(i / 7, i % 7)).append(' ').append(x.count(i)).append(' ');
        }
        return b.toString();
    }
}
