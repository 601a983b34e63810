import java.math.BigInteger;

/** Promises 6 to 12: YARDS, TIPS, ERRORS, building by hand, DAYS by RULES, MISS. */
final class YardTest {
    private static final Check CHECK = new Check("YardTest");
    private static final int NO = -100000;

    public static void main(String[] args) {
        byHand();
        seen();
        errors();
        bothLookFirst();
        secondFindsNoGap();
        floods();
        pullAndWait();
        words();
        sums();
        tests();
        firstClause();
        errorOfTheDay();
        springLimits();
        misses();
        CHECK.close();
    }

    private static void byHand() {
        HalfBridge x = Told.at(CHECK, "wide 4;bank 0 10 5;bank 1 4 7;step 2;eyes 0 9;eyes 1 3");
        CHECK.is("bank", x.tip(0, 1) * 100 + x.tip(0, 2), 1005);
        CHECK.is("bank", x.tip(1, 1) * 100 + x.tip(1, 2), 407);
        CHECK.is("eyes", x.tip(0, 6) * 10 + x.tip(1, 6), 93);
        CHECK.is("build", x.build(0, 2, -1), true);
        CHECK.is("build", x.build(0, -2, 2), true);
        int[] due = {12, 4, 2, -1, 10, 6, -2, 2};
        for (int i = 0; i < 8; i++) {
            CHECK.is("yard(0, " + i / 4 + ", " + i % 4 + ")", x.yard(0, i / 4, i % 4), due[i]);
        }
        CHECK.is("yards", x.tip(0, 0), 2);
        CHECK.is("line", x.tip(0, 1), 10);
        CHECK.is("height", x.tip(0, 2), 6);
        CHECK.is("crooked", x.tip(0, 3), 7);
        CHECK.is("the other is not", x.tip(1, 3), 0);
        CHECK.is("turn 3", x.build(0, 3, 0), false);
        CHECK.is("turn -3", x.build(0, -3, 0), false);
        CHECK.is("rise 3", x.build(0, 0, 3), false);
        CHECK.is("rise -3", x.build(0, 0, -3), false);
        CHECK.is("side 2", x.build(2, 0, 0), false);
        CHECK.is("side -1", x.build(-1, 0, 0), false);
        CHECK.is("gap", x.count(1), 2);
        CHECK.is("build", x.build(1, -2, -2), true);
        CHECK.is("below 0 later", x.yard(1, 0, 0) * 100 + x.yard(1, 0, 1), 205);
        CHECK.is("build", x.build(1, -2, 0), true);
        CHECK.is("no gap", x.build(0, 0, 0), false);
        CHECK.is("no gap", x.build(1, 0, 0), false);
        CHECK.is("no yard 2", x.yard(0, 2, 0), NO);
        CHECK.is("no yard -1", x.yard(0, -1, 0), NO);
        CHECK.is("no what 4", x.yard(0, 0, 4), NO);
        CHECK.is("no what -1", x.yard(0, 0, -1), NO);
        CHECK.is("no side 2", x.yard(2, 0, 0), NO);
        CHECK.is("no side -1", x.yard(-1, 0, 0), NO);
        CHECK.is("pull", x.pull(1), true);
        CHECK.is("pull", x.pull(1), true);
        CHECK.is("nothing to pull", x.pull(1), false);
        CHECK.is("pull of side 2", x.pull(2), false);
        CHECK.is("pull of side -1", x.pull(-1), false);
        CHECK.is("gap", x.count(1), 2);
        CHECK.is("the bank again", x.tip(1, 1), 4);
        CHECK.is("day", x.count(2), 0);
        for (int i = 0; i < 2; i++) {
            x.build(1, -2, -2);
        }
        CHECK.is("line 0", x.tip(1, 1), 0);
        x = Told.at(CHECK, "wide 3");
        x.build(0, -1, -1);
        CHECK.is("below 0", x.yard(0, 0, 0) + 10 * x.yard(0, 0, 1), -11);
        CHECK.is("crooked as if above 0", x.tip(0, 3), 2);
    }

    private static void seen() {
        HalfBridge x = Told.at(CHECK, "wide 6;bank 0 10 5;bank 1 4 7;eyes 0 9;eyes 1 3");
        CHECK.is("no error", x.tip(0, 4) * 100 + x.tip(0, 5), 407);
        x.err(0, 0, 5);
        CHECK.is("5 * 9 * 6 / 90", x.tip(0, 4) * 100 + x.tip(0, 5), 704);
        x.err(0, 0, 4);
        CHECK.is("4 * 9 * 6 / 90", x.tip(0, 4) * 100 + x.tip(0, 5), 605);
        x.err(0, 0, -4);
        CHECK.is("towards 0", x.tip(0, 4) * 100 + x.tip(0, 5), 209);
        x.err(1, 0, 9);
        CHECK.is("9 * 3 * 6 / 90", x.tip(1, 4) * 100 + x.tip(1, 5), 1104);
        x.build(1, 1, 1);
        CHECK.is("-4 * 9 * 5 / 90", x.tip(0, 4) * 100 + x.tip(0, 5), 310);
    }

    private static void errors() {
        HalfBridge x = Told.at(CHECK, "wide 6");
        CHECK.is("err", x.err(0, 0, 9), 0);
        CHECK.is("err", x.err(0, 0, -9), 9);
        CHECK.is("err", x.err(0, 7, 1), 0);
        CHECK.is("err", x.err(1, 0, 2), 0);
        CHECK.is("side 2", x.err(2, 0, 1), NO);
        CHECK.is("side -1", x.err(-1, 0, 1), NO);
        CHECK.is("place 8", x.err(0, 8, 1), NO);
        CHECK.is("place -1", x.err(0, -1, 1), NO);
        CHECK.is("10", x.err(0, 0, 10), NO);
        CHECK.is("-10", x.err(0, 0, -10), NO);
        CHECK.is("it stays", x.err(0, 0, 0), -9);
        CHECK.is("it stays", x.err(0, 7, 0), 1);
        CHECK.is("it stays", x.err(1, 0, 0), 2);
    }

    private static void bothLookFirst() {
        HalfBridge x = Told.at(CHECK, "wide 6;bank 0 10 5;bank 1 4 5;step 2;inches 1", "turn other - line;rise tall - height");
        CHECK.is("a day", x.spring(0, 0, 1), 1);
        CHECK.is("left", x.tip(0, 1), 8);
        CHECK.is("right", x.tip(1, 1), 6);
        CHECK.is("a day", x.spring(0, 0, 1), 2);
        CHECK.is("they pass", x.tip(0, 1) * 10 + x.tip(1, 1), 68);
        CHECK.is("till MET", x.spring(0, 0, 200), 3);
        CHECK.is("they pass", x.tip(0, 1) * 10 + x.tip(1, 1), 86);
        CHECK.is("met: no day more", x.spring(0, 0, 5), 3);
        CHECK.is("crooked", x.tip(0, 3) * 10 + x.tip(1, 3), 66);
    }

    private static void secondFindsNoGap() {
        HalfBridge x = Told.at(CHECK, "wide 3", "turn 1", "pull yards = 1;turn 1");
        CHECK.is("met", x.spring(-1, 0, 9), 2);
        CHECK.is("left has two", x.tip(0, 0) * 10 + x.tip(1, 0), 21);
        x = Told.at(CHECK, "wide 3", "turn 1", "pull yards = 1;turn 1");
        CHECK.is("the right pulls though the GAP is closed then", x.spring(-1, 1, 2), 2);
        CHECK.is("so it is not met", x.count(1) * 100 + x.tip(0, 0) * 10 + x.tip(1, 0), 120);
        CHECK.is("a day later it is", x.spring(-1, 1, 9), 3);
        CHECK.is("by the left alone", x.tip(0, 0) * 10 + x.tip(1, 0), 30);
    }

    private static void floods() {
        HalfBridge x = Told.at(CHECK, "wide 6;flood 2 1;flood 3 2;flood 3 1");
        CHECK.is("a flood on day 2", x.spring(-1, -1, 3), 3);
        CHECK.is("one from each", x.tip(0, 0) * 10 + x.tip(1, 0), 22);
        CHECK.is("two floods on day 3", x.spring(-1, -1, 1), 4);
        CHECK.is("three from each", x.tip(0, 0) * 10 + x.tip(1, 0), 0);
        CHECK.is("then none", x.spring(-1, -1, 9), 7);
        x = Told.at(CHECK, "wide 8;flood 0 9");
        x.build(0, 1, 0);
        CHECK.is("as many as there are", x.spring(-1, -1, 1), 1);
        CHECK.is("gap", x.count(1), 8);
        x = Told.at(CHECK, "wide 2;flood 0 1;flood 1 1");
        CHECK.is("met behind floods only", x.spring(-1, -1, 9), 3);
        CHECK.is("floods told", x.count(4), 2);
    }

    private static void pullAndWait() {
        HalfBridge x = Told.at(CHECK, "wide 20;step 3", "pull yards > 1;wait yards = 1;turn 3",
                "pull yards = 2;turn 0", "pull 1 = 1");
        x.spring(0, 1, 1);
        CHECK.is("both build", x.tip(0, 0) * 10 + x.tip(1, 0), 11);
        CHECK.is("by its turn", x.tip(0, 1), 3);
        x.spring(0, 1, 1);
        CHECK.is("the left waits", x.tip(0, 0) * 10 + x.tip(1, 0), 12);
        x.spring(0, 1, 1);
        CHECK.is("the right pulls", x.tip(0, 0) * 10 + x.tip(1, 0), 11);
        x.build(0, 0, 0);
        x.spring(0, 1, 1);
        CHECK.is("the left pulls", x.tip(0, 0) * 10 + x.tip(1, 0), 12);
        CHECK.is("nothing to pull", x.spring(2, 2, 9), 13);
        CHECK.is("nothing is left", x.count(1), 20);
        x = Told.at(CHECK, "wide 20", "wait 1 = 1;pull yards = 1");
        x.build(0, 1, 1);
        x.spring(0, 0, 1);
        CHECK.is("pull goes ahead of wait", x.tip(0, 0), 0);
        x = Told.at(CHECK, "wide 20", "wait 1 = 2;wait 2 = 2", "pull 1 = 2;pull yards = 1");
        x.build(1, 0, 0);
        x.spring(0, 1, 1);
        CHECK.is("some wait, some pull", x.count(1), 20);
    }

    /** The RULE of the left tells the value of a SUM by the TURN of a YARD, from -20 to 20. */
    private static int turnBy(String river, int lefts, int days, String sum) {
        HalfBridge x = Told.at(CHECK, river, "turn " + sum, "wait 1 = 1");
        x.err(0, days % 8, 9);
        if (days > 0) {
            x.spring(1, 1, days);
        }
        for (int i = 0; i < lefts; i++) {
            x.build(0, 2 - 5 * i, 3);
        }
        x.build(1, 1, -2);
        x.spring(0, 1, 1);
        return x.yard(0, lefts, 2);
    }

    private static void words() {
        String river = "wide 20;bank 0 10 3;bank 1 15 8;step 20;eyes 0 5";
        CHECK.is("side", turnBy(river, 1, 0, "side"), 0);
        CHECK.is("line", turnBy(river, 1, 0, "line"), 12);
        CHECK.is("line of the bank", turnBy(river, 0, 0, "line"), 10);
        CHECK.is("height", turnBy(river, 1, 0, "height"), 6);
        CHECK.is("height of the bank", turnBy(river, 0, 0, "height"), 3);
        CHECK.is("other: 16 and 9 * 5 * 18 / 90", turnBy(river, 1, 0, "other - 10"), 15);
        CHECK.is("tall: 6 and -9 * 5 * 18 / 90", turnBy(river, 1, 0, "tall"), -3);
        CHECK.is("gap", turnBy(river, 1, 0, "gap"), 18);
        CHECK.is("day", turnBy(river, 1, 11, "day"), 11);
        CHECK.is("yards", turnBy(river, 3, 0, "yards"), 3);
        CHECK.is("last", turnBy(river, 2, 0, "last"), -3);
        CHECK.is("last without", turnBy(river, 0, 0, "last"), 0);
        HalfBridge x = Told.at(CHECK, river, "turn side * 7");
        x.spring(0, 0, 1);
        CHECK.is("side of the left", x.yard(0, 0, 2), 0);
        CHECK.is("side of the right", x.yard(1, 0, 2), 7);
    }

    private static void sums() {
        String river = "wide 20;bank 0 10 3;bank 1 15 8;step 20;eyes 0 5";
        CHECK.is("2 + 3 * 4", turnBy(river, 2, 0, "2 + 3 * 4"), 14);
        CHECK.is("20 - 3 - 4", turnBy(river, 2, 0, "20 - 3 - 4"), 13);
        CHECK.is("20 - 3 + 1", turnBy(river, 2, 0, "20 - 3 + 1"), 18);
        CHECK.is("7 / 2 * 4", turnBy(river, 2, 0, "7 / 2 * 4"), 12);
        CHECK.is("19 / 3 / 2", turnBy(river, 2, 0, "19 / 3 / 2"), 3);
        CHECK.is("-3 / 2 towards 0", turnBy(river, 2, 0, "last / 2"), -1);
        CHECK.is("7 / -3 towards 0", turnBy(river, 2, 0, "7 / last"), -2);
        CHECK.is("by 0", turnBy(river, 2, 0, "5 / 0"), 0);
        CHECK.is("by side", turnBy(river, 2, 0, "1 + 5 / side"), 1);
        CHECK.is("held to step", turnBy(river, 2, 0, "21"), 20);
        CHECK.is("held to -step", turnBy(river, 2, 0, "0 - 99999"), -20);
        for (int n = 2; n <= 12; n++) {
            String sum = "99999" + " * 99999".repeat(n - 1);
            long due = BigInteger.valueOf(99999).pow(n).longValue();
            CHECK.is(sum, turnBy(river, 2, 0, sum), due > 0 ? 20 : -20);
            String small = sum + " / 99999 / 99999 / 99999 / 7";
            long less = due / 99999 / 99999 / 99999 / 7;
            CHECK.is(small, turnBy(river, 2, 0, small), (int) Math.max(-20, Math.min(20, less)));
        }
        String wrapped = "2" + " * 2".repeat(50) + " * 4096 / last";
        CHECK.is("2^63 goes round", turnBy(river, 2, 0, wrapped), 20);
        CHECK.is("2^64 goes round", turnBy(river, 2, 0, "2" + " * 2".repeat(50) + " * 8192"), 0);
        String byLess = "2" + " * 2".repeat(50) + " * 4096 / line + 1";
        HalfBridge x = Told.at(CHECK, "wide 9;step 20", "turn " + byLess);
        x.build(0, -1, 0);
        x.spring(0, -1, 1);
        CHECK.is("the least number by -1 goes round", x.yard(0, 1, 2), -20);
    }

    private static void holds(String test, boolean due) {
        HalfBridge x = Told.at(CHECK, "wide 20", "wait " + test);
        x.spring(0, -1, 1);
        CHECK.is(test, x.tip(0, 0) == 0, due);
    }

    private static void tests() {
        String[] signs = {"<", "<=", "=", ">=", ">"};
        for (int a = 1; a <= 3; a++) {
            boolean[] due = {a < 2, a <= 2, a == 2, a >= 2, a > 2};
            for (int i = 0; i < 5; i++) {
                holds(a + signs[i] + "2", due[i]);
            }
        }
        holds("1 = 1 or 1 = 1 and 1 = 2", true);
        holds("[ 1 = 1 or 1 = 1 ] and 1 = 2", false);
        holds("1 = 2 and 1 = 2 or 1 = 1", true);
        holds("not 1 = 2 and 1 = 2", false);
        holds("not [ 1 = 2 and 1 = 2 ]", true);
        holds("not not 1 = 2", false);
        holds("not not not 1 = 2", true);
        holds("not [ not 1 = 1 or not 2 = 2 ]", true);
        holds("1 = 1 and 2 = 2 and 3 = 4", false);
        holds("1 = 2 or 2 = 3 or 3 = 3", true);
        holds("1 + 1 = 4 - 2", true);
        holds("[[[1=1]and 2=2]or 1=2]and not 1=2", true);
    }

    private static void firstClause() {
        String river = "wide 20;step 20";
        HalfBridge x = Told.at(CHECK, river, "rise 9 if gap = 1;turn 1 if gap = 1;turn 2 if gap = 20;turn 3;rise 4;rise 5");
        x.spring(0, -1, 1);
        CHECK.is("the first whose TEST holds", x.yard(0, 0, 2) * 10 + x.yard(0, 0, 3), 24);
        x.spring(0, -1, 1);
        CHECK.is("the first without", x.yard(0, 1, 2) * 10 + x.yard(0, 1, 3), 34);
        x = Told.at(CHECK, river, "turn 7 if gap = 1;rise 3");
        x.spring(0, -1, 1);
        CHECK.is("0 without one", x.yard(0, 0, 2) * 10 + x.yard(0, 0, 3), 3);
        CHECK.is("NONE builds straight", x.yard(1, 0, 2) * 10 + x.yard(1, 0, 3), 0);
    }

    private static void errorOfTheDay() {
        HalfBridge x = Told.at(CHECK, "wide 40;eyes 0 9;step 20", "turn other - line", "wait 1 = 1");
        x.err(0, 3, 5);
        x.spring(1, 1, 2);
        CHECK.is("day 2", x.tip(0, 4), 0);
        x.spring(1, 1, 1);
        CHECK.is("day 3", x.tip(0, 4), 20);
        CHECK.is("of height", x.tip(0, 5), -20);
        x.spring(1, 1, 8);
        CHECK.is("day 11", x.tip(0, 4), 20);
        x.spring(0, 1, 1);
        CHECK.is("built by it", x.yard(0, 0, 0), 20);
        CHECK.is("day 12", x.tip(0, 4), 0);
    }

    private static void springLimits() {
        HalfBridge x = Told.at(CHECK, "wide 4", "wait 1 = 1");
        CHECK.is("0 days", x.spring(0, 0, 0), -1);
        CHECK.is("201 days", x.spring(0, 0, 201), -1);
        CHECK.is("no rule 1", x.spring(1, 0, 1), -1);
        CHECK.is("no rule 1", x.spring(0, 1, 1), -1);
        CHECK.is("no rule -2", x.spring(-2, 0, 1), -1);
        CHECK.is("no rule -2", x.spring(0, -2, 1), -1);
        CHECK.is("nothing happened", x.count(2), 0);
        for (int i = 1; i <= 49; i++) {
            CHECK.is("spring", x.spring(0, 0, 200), 200 * i);
        }
        CHECK.is("it could be 10000", x.spring(0, 0, 200), -1);
        CHECK.is("9998", x.spring(0, 0, 198), 9998);
        CHECK.is("it could be 10000", x.spring(0, 0, 2), -1);
        CHECK.is("it could be 10000, though it would be MET", x.spring(-1, -1, 200), -1);
        CHECK.is("9999", x.spring(0, 0, 1), 9999);
        CHECK.is("above 9999", x.spring(0, 0, 1), -1);
        CHECK.is("day", x.count(2), 9999);
    }

    private static void misses() {
        HalfBridge x = Told.at(CHECK, "wide 2;bank 0 1 5;bank 1 3 4;inches 2");
        CHECK.is("lines", x.miss(0), 2);
        CHECK.is("heights", x.miss(1), 1);
        CHECK.is("not met", x.miss(2), 0);
        CHECK.is("not in time", x.miss(3), 0);
        CHECK.is("what 4", x.miss(4), -1);
        CHECK.is("what -1", x.miss(-1), -1);
        x.build(0, 0, 0);
        x.build(0, 0, 0);
        CHECK.is("met", x.miss(2), 1);
        CHECK.is("in time", x.miss(3), 1);
        x.pull(0);
        x.build(0, -1, 0);
        CHECK.is("lines", x.miss(0), 3);
        CHECK.is("met", x.miss(2), 1);
        CHECK.is("missed by lines", x.miss(3), 0);
        x = Told.at(CHECK, "wide 2;bank 0 1 5;bank 1 3 8;inches 2");
        x.spring(-1, -1, 1);
        CHECK.is("missed by heights", x.miss(3) * 10 + x.miss(2), 1);
    }
}
