/** DAYS by RULES (part II of the document, promise 11), at each bound that it tells of them. */
final class DayBoundTest {
    private static final Check CHECK = new Check("DayBoundTest");
    private static final Rich TOLD = new Rich(CHECK, Rich::told);
    private static final Rich MET = new Rich(CHECK, Rich::met);
    private static final Rich BARE = new Rich(CHECK, Rich::bare);

    public static void main(String[] args) {
        byNone();
        notWhenMet();
        bothLook();
        pulls();
        waits();
        gapAsItIsThen();
        firstClause();
        heldToStep();
        floods();
        metBehindFloods();
        daysOfSpring();
        rulesOfSpring();
        lastDay();
        CHECK.close();
    }

    private static void yards(String when, HalfBridge x, int left, int right) {
        CHECK.is(when + ": the left's YARDS", x.tip(0, 0), left);
        CHECK.is(when + ": the right's YARDS", x.tip(1, 0), right);
    }

    private static void byNone() {
        CHECK.sentence("A DAY by two RULES (of the left, of the right; NONE: it builds, TURN 0, RISE 0), if it is not MET:");
        HalfBridge x = Told.at(CHECK, "wide 9;bank 0 1 2;bank 1 3 4;step 9", "turn 5;rise 6");
        CHECK.is("a day", x.spring(-1, 0, 1), 1);
        CHECK.is("the left by NONE", x.yard(0, 0, 2) * 10 + x.yard(0, 0, 3), 0);
        CHECK.is("the right by its RULE", x.yard(1, 0, 2) * 10 + x.yard(1, 0, 3), 56);
        CHECK.is("a day", x.spring(0, -1, 1), 2);
        CHECK.is("the left by its RULE", x.yard(0, 1, 2) * 10 + x.yard(0, 1, 3), 56);
        CHECK.is("the right by NONE", x.yard(1, 1, 2) * 10 + x.yard(1, 1, 3), 0);
    }

    private static void notWhenMet() {
        HalfBridge x = Told.at(CHECK, "wide 4;flood 2 1;flood 3 1", "pull 1=1");
        CHECK.is("till it is MET", x.spring(-1, -1, 200), 2);
        yards("MET", x, 2, 2);
        CHECK.is("no DAY", x.spring(0, 0, 1), 2);
        CHECK.is("no DAY", x.spring(-1, -1, 200), 2);
        yards("neither pulled nor flooded", x, 2, 2);
        x.pull(0);
        CHECK.is("opened by hand: DAYS again", x.spring(-1, -1, 1), 3);
        yards("flooded", x, 1, 1);
        MET.refuses("spring when it is MET", y -> y.spring(0, 1, 1), Rich.met().count(2));
        MET.refuses("spring when it is MET", y -> y.spring(-1, -1, 200), Rich.met().count(2));
    }

    private static void bothLook() {
        CHECK.sentence("both look (all WORDS as at its begin).");
        HalfBridge x = Told.at(CHECK, "wide 9;bank 0 4 0;bank 1 6 0;step 9", "turn other-line;rise gap", "turn other;rise gap");
        x.spring(0, 1, 1);
        CHECK.is("the left", x.tip(0, 1) * 100 + x.tip(0, 2), 609);
        CHECK.is("the right sees the left's bank and all of the GAP", x.tip(1, 1) * 100 + x.tip(1, 2), 1009);
        // Each by its own ERROR: 9 * 9 * 10 / 90 for the left, -5 * 9 * 10 / 90 for the right.
        x = Told.at(CHECK, "wide 10;eyes 0 9;eyes 1 9;step 20", "turn other;rise tall");
        x.err(0, 0, 9);
        x.err(1, 0, -5);
        x.spring(0, 0, 1);
        CHECK.is("the left by 9", x.tip(0, 1) * 100 + x.tip(0, 2), 891);
        CHECK.is("the right by -5", x.tip(1, 1) * 100 + x.tip(1, 2), -495);
        x = Told.at(CHECK, "wide 2", "turn 1", "wait gap=1", "wait gap=2");
        x.spring(0, 1, 1);
        yards("the right looked at GAP 2", x, 1, 1);
        x = Told.at(CHECK, "wide 2", "turn 1", "wait gap=2");
        x.spring(0, 1, 1);
        yards("the right looked at GAP 2", x, 1, 0);
    }

    private static void pulls() {
        CHECK.sentence("Then the left, then the right: if some pull TEST holds, its last YARD is pulled down (nothing, if it has"
                + " none);");
        HalfBridge x = Told.at(CHECK, "wide 9", "pull 1=2;pull 1=1;wait 1=1;turn 1", "pull 1=2;pull 2=1;turn 1");
        x.build(0, 1, 0);
        x.build(0, 1, 0);
        x.build(1, 1, 0);
        CHECK.is("a day", x.spring(0, 0, 1), 1);
        yards("one of each", x, 1, 0);
        CHECK.is("a day", x.spring(0, 0, 1), 2);
        yards("nothing, if it has none", x, 0, 0);
        CHECK.is("a day", x.spring(0, 0, 1), 3);
        yards("nothing, if both have none", x, 0, 0);
        CHECK.is("a day", x.spring(1, 1, 1), 4);
        yards("none of its TESTS holds", x, 1, 1);
    }

    private static void waits() {
        CHECK.sentence("else, if some wait TEST holds, nothing;");
        HalfBridge x = Told.at(CHECK, "wide 9", "wait 1=2;turn 1;wait 1=1", "wait 1=2;wait 2=1", "wait 1=1;pull yards=1");
        x.spring(0, 1, 1);
        yards("the one waits", x, 0, 1);
        x.spring(1, 2, 1);
        yards("pull goes ahead of wait", x, 1, 0);
        x.spring(2, 2, 1);
        yards("no pull TEST holds for the right", x, 0, 0);
    }

    private static void gapAsItIsThen() {
        CHECK.sentence("else, if the GAP is above 0 as it is then, it builds a YARD:");
        for (int gap = 1; gap <= 3; gap++) {
            HalfBridge x = Told.at(CHECK, "wide 9");
            for (int i = 9; i > gap; i--) {
                x.build(1, 0, 0);
            }
            x.spring(-1, -1, 1);
            yards("by a GAP of " + gap, x, 1, 9 - gap + (gap > 1 ? 1 : 0));
        }
        HalfBridge x = Told.at(CHECK, "wide 3", "pull 1=1", "turn 0", "wait 1=1");
        x.build(0, 0, 0);
        x.build(1, 0, 0);
        CHECK.is("the left builds, the right pulls", x.spring(1, 0, 1), 1);
        yards("GAP 1 again", x, 2, 0);
        CHECK.is("the left pulls, the right builds", x.spring(0, 1, 1), 2);
        yards("GAP 1 again", x, 1, 1);
        CHECK.is("the left waits, the right builds", x.spring(2, 1, 1), 3);
        yards("MET", x, 1, 2);
    }

    private static void firstClause() {
        CHECK.sentence("TURN is the SUM of the first turn CLAUSE without a TEST, or whose TEST holds (0 without one),"
                + " held to -step to step, RISE by rise CLAUSES likewise.");
        String[] rules = {"turn 1;turn 2", "turn 1 if 1=2;turn 2", "turn 1 if 1=1;turn 2", "turn 1 if 1=2;turn 2 if 1=2;turn 3",
            "turn 1 if 1=2", "rise 9", "wait 1=2", "turn 4;turn 5 if 1=1"};
        int[] due = {1, 2, 1, 3, 0, 0, 0, 4};
        for (int i = 0; i < rules.length; i++) {
            HalfBridge x = Told.at(CHECK, "wide 9;step 9", rules[i], rules[i].replace("turn", "x").replace("rise", "turn")
                    .replace("x", "rise"));
            x.spring(0, 1, 1);
            CHECK.is("TURN by '" + rules[i] + "'", x.yard(0, 0, 2), due[i]);
            CHECK.is("RISE by the same", x.yard(1, 0, 3), due[i]);
            CHECK.is("RISE of it", x.yard(0, 0, 3), i == 5 ? 9 : 0);
            CHECK.is("TURN by the same", x.yard(1, 0, 2), i == 5 ? 9 : 0);
        }
    }

    private static void heldToStep() {
        for (int step : new int[] {1, 2, 20}) {
            for (int sum : new int[] {step - 1, step, step + 1, 99999}) {
                HalfBridge x = Told.at(CHECK, "wide 9;step " + step, "turn " + sum + ";rise 0-" + sum,
                        "turn 0-" + sum + ";rise " + sum);
                x.spring(0, 1, 1);
                int held = Math.min(step, sum);
                CHECK.is(sum + " held to " + step, x.yard(0, 0, 2), held);
                CHECK.is("-" + sum + " held to " + step, x.yard(0, 0, 3), -held);
                CHECK.is("-" + sum + " held to " + step, x.yard(1, 0, 2), -held);
                CHECK.is(sum + " held to " + step, x.yard(1, 0, 3), held);
            }
        }
        for (int turn : new int[] {-20, -19, 0, 19, 20}) {
            for (int rise : new int[] {-20, -19, 0, 19, 20}) {
                HalfBridge x = Told.at(CHECK, "wide 9;bank 0 50 50;step 20", "turn line-50+" + (turn + 20) + "-20;rise "
                        + (rise + 20) + "-20");
                x.spring(0, -1, 1);
                CHECK.is("YARDS by " + turn + ", " + rise, x.tip(0, 0), 1);
                CHECK.is("TURN by " + turn + ", " + rise, x.yard(0, 0, 2), turn);
                CHECK.is("RISE by " + turn + ", " + rise, x.yard(0, 0, 3), rise);
            }
        }
        String[] far = {"65536*65536", "65536*32768", "32768*32768*32768*32768*4"};
        for (String sum : far) {
            HalfBridge x = Told.at(CHECK, "wide 9;step 3", "turn " + sum + ";rise 0-" + sum);
            x.spring(0, -1, 1);
            CHECK.is(sum, x.yard(0, 0, 2), 3);
            CHECK.is("0-" + sum, x.yard(0, 0, 3), -3);
        }
        HalfBridge x = Told.at(CHECK, "wide 9;step 3", "turn 32768*32768*32768*32768*8;rise 32768*32768*32768*32768*8-1");
        x.spring(0, -1, 1);
        CHECK.is("the least of 64 bits", x.yard(0, 0, 2), -3);
        CHECK.is("the most of 64 bits", x.yard(0, 0, 3), 3);
    }

    private static void floods() {
        CHECK.sentence("Then FLOODS of that day: each takes its YARDS from both SIDES, from the TIPS (as many as there are).");
        for (int yards = 1; yards <= 4; yards++) {
            HalfBridge x = Told.at(CHECK, "wide 20;flood 1 " + yards + ";flood 3 1;flood 3 2");
            x.build(0, 1, 0);
            x.build(0, 1, 0);
            x.spring(-1, -1, 1);
            yards("ahead of that day", x, 3, 1);
            x.spring(-1, -1, 1);
            yards("a flood of " + yards, x, 4 - yards, Math.max(0, 2 - yards));
            CHECK.is("from the TIP", x.tip(0, 1), Math.min(2, 4 - yards));
            x.spring(-1, -1, 1);
            yards("a day without", x, 5 - yards, Math.max(0, 2 - yards) + 1);
            x.spring(-1, -1, 1);
            yards("two floods of a day", x, Math.max(0, 3 - yards), 0);
        }
        HalfBridge x = Told.at(CHECK, "wide 20;flood 0 9");
        for (int i = 0; i < 9; i++) {
            x.build(i / 8, 0, 0);
        }
        x.spring(-1, -1, 1);
        yards("nine and two", x, 0, 0);
        x.spring(-1, -1, 1);
        yards("a flood comes once", x, 1, 1);
    }

    private static void metBehindFloods() {
        CHECK.sentence("(It is MET as it stands behind that.)");
        HalfBridge x = Told.at(CHECK, "wide 2;flood 0 1;flood 1 9;flood 3 1");
        CHECK.is("closed, but flooded on two days", x.spring(-1, -1, 9), 3);
        yards("MET", x, 1, 1);
        CHECK.is("MET", x.miss(2), 1);
        CHECK.is("the next flood finds no DAY", x.spring(-1, -1, 9), 3);
        CHECK.is("the day at which it is", Told.at(CHECK, "wide 2;flood 0 1").ahead(-1, -1, 9, 0), 2);
    }

    private static void daysOfSpring() {
        CHECK.sentence("So many DAYS (1 to 200), till it is MET: day;");
        for (int n : new int[] {1, 2, 199, 200}) {
            HalfBridge x = Told.at(CHECK, "wide 9", "wait 1=1");
            CHECK.is("spring of " + n, x.spring(0, 0, n), n);
            CHECK.is("day", x.count(2), n);
            CHECK.is("spring of " + n, x.spring(0, 0, n), 2 * n);
        }
        HalfBridge x = Told.at(CHECK, "wide 9", "wait day<199");
        CHECK.is("199 days", x.spring(0, 0, 199), 199);
        yards("of waiting", x, 0, 0);
        x = Told.at(CHECK, "wide 2", "wait day<199");
        CHECK.is("MET on the last one", x.spring(0, 0, 200), 200);
        CHECK.is("MET", x.miss(2), 1);
        x = Told.at(CHECK, "wide 9", "wait 1=1");
        CHECK.is("till it is MET", x.spring(-1, -1, 200), 5);
        CHECK.sentence("NONE, and nothing happens, without these (RULES, or NONE; no RIVER), or if day could be above 9999.");
        for (int n : Rich.beyond(1, 200)) {
            TOLD.refuses("spring of " + n, y -> y.spring(0, 1, n), -1);
            TOLD.refuses("spring of " + n, y -> y.spring(-1, -1, n), -1);
            MET.refuses("spring of " + n, y -> y.spring(0, 1, n), -1);
        }
        TOLD.changes("spring of 1", y -> y.spring(0, 1, 1), 2);
    }

    private static void rulesOfSpring() {
        for (int rule : Rich.noRules()) {
            TOLD.refuses("spring by the left's RULE " + rule, x -> x.spring(rule, 0, 1), -1);
            TOLD.refuses("spring by the right's RULE " + rule, x -> x.spring(0, rule, 1), -1);
        }
        for (int rule : new int[] {-1, 0, 1}) {
            TOLD.changes("spring by the left's RULE " + rule, x -> x.spring(rule, -1, 1), 2);
            TOLD.changes("spring by the right's RULE " + rule, x -> x.spring(-1, rule, 1), 2);
            BARE.refuses("no RIVER: spring by " + rule, x -> x.spring(rule, rule, 1), -1);
        }
        Rich six = new Rich(CHECK, Rich::sixRules);
        for (int rule : Rich.beyond(-1, 5)) {
            six.refuses("spring by the left's RULE " + rule, x -> x.spring(rule, 0, 1), -1);
            six.refuses("spring by the right's RULE " + rule, x -> x.spring(0, rule, 1), -1);
        }
        six.changes("spring by RULE 5", x -> x.spring(5, 5, 1), 2);
    }

    /** Both wait till a day: 50 calls at most. */
    private static HalfBridge late(int day) {
        HalfBridge x = new HalfBridge();
        Told.river(x, "wide 4");
        Told.rule(x, "wait 1=1");
        for (int i = day; i > 0; i -= 200) {
            x.spring(0, 0, Math.min(200, i));
        }
        return x;
    }

    private static void lastDay() {
        CHECK.sentence("The day (0 at first, 9999 at most) is 1 more.");
        CHECK.is("0 at first", Told.at(CHECK, "wide 4").count(2), 0);
        CHECK.is("1 more", Told.at(CHECK, "wide 4").spring(-1, -1, 1), 1);
        for (int n : new int[] {1, 2, 100, 199, 200}) {
            CHECK.is("to 9999 by " + n, late(9999 - n).spring(0, 0, n), 9999);
            Rich oneLess = new Rich(CHECK, () -> late(10000 - n));
            oneLess.refuses("to 10000 by " + n, x -> x.spring(0, 0, n), -1);
            oneLess.refuses("it could be 10000 by " + n, x -> x.spring(-1, -1, n), -1);
        }
        Rich last = new Rich(CHECK, () -> late(9999));
        last.refuses("no day more", x -> x.spring(0, 0, 1), -1);
        last.refuses("no day more", x -> x.spring(-1, -1, 200), -1);
        HalfBridge x = late(9998);
        CHECK.is("9998", x.count(2), 9998);
        CHECK.is("9999", x.spring(-1, -1, 1), 9999);
        CHECK.is("a day behind it is 9999", x.count(2), 9999);
        CHECK.is("none", x.spring(-1, -1, 1), -1);
        yards("one day of building", x, 1, 1);
        CHECK.is("a new RIVER begins at 0", Told.river(x, "wide 2"), 2);
        CHECK.is("day", x.count(2), 0);
        CHECK.is("and goes on", x.spring(-1, -1, 200), 1);
    }
}
