/** What is asked ahead (part III of the document, promises 13, 14, 15 and 18), at each bound that it tells. */
final class AskBoundTest {
    private static final Check CHECK = new Check("AskBoundTest");
    private static final Rich TOLD = new Rich(CHECK, Rich::told);
    private static final Rich MET = new Rich(CHECK, Rich::met);
    private static final Rich BARE = new Rich(CHECK, Rich::bare);

    public static void main(String[] args) {
        nothingChanges();
        ahead();
        aheadWhat();
        aheadRefused();
        zigzag();
        everyYardComesAgain();
        aRiseForATurn();
        asManyYards();
        zigzagAsOnThisDay();
        zigzagRests();
        within300();
        zigzagRefused();
        whateverRows();
        whateverErrors();
        whateverDays();
        whateverRefused();
        mend();
        mendBound();
        mendRefused();
        CHECK.close();
    }

    /** As asked rightly of what is told, and of what is MET. */
    private static void nothingChanges() {
        CHECK.sentence("(Nothing changes by what is asked.)");
        for (Rich of : new Rich[] {TOLD, MET}) {
            HalfBridge y = of == TOLD ? Rich.told() : Rich.met();
            for (int what = 0; what < 6; what++) {
                int w = what;
                of.refuses("ahead, what " + what, x -> x.ahead(0, 1, 400, w), y.ahead(0, 1, 400, w));
                of.refuses("straight, what " + what, x -> x.straight(0, 1, w), y.straight(0, 1, w));
                of.refuses("spite, what " + what, x -> x.spite(1, 0, 8, w), y.spite(1, 0, 8, w));
                of.refuses("erred, what " + what, x -> x.erred(0, 1, 3, 9, w), y.erred(0, 1, 3, 9, w));
                of.refuses("count, what " + what, x -> x.count(w), y.count(w));
                of.refuses("tip, what " + what, x -> x.tip(1, w), y.tip(1, w));
                of.refuses("yard, what " + what, x -> x.yard(1, 0, w), y.yard(1, 0, w));
                of.refuses("miss, what " + what, x -> x.miss(w), y.miss(w));
            }
            for (int what = 0; what < 2; what++) {
                int w = what;
                of.refuses("zigzag, what " + what, x -> x.zigzag(0, 1, w), y.zigzag(0, 1, w));
                of.refuses("mend, what " + what, x -> x.mend(w), y.mend(w));
                of.refuses("tried, what " + what, x -> x.tried(0, 1, 20, 200, 50, w), y.tried(0, 1, 20, 200, 50, w));
                of.refuses("whatever of " + what, x -> x.whatever(0, 1, 60, w, 3, 9), y.whatever(0, 1, 60, w, 3, 9));
            }
            of.refuses("leap", x -> x.leap(2000), 1);
        }
    }

    private static void ahead() {
        CHECK.sentence("AHEAD n DAYS (0 to 400) by two RULES, till it is MET: the day at which it is (as day then is), MISS,"
                + " CROOKED of both.");
        HalfBridge x = Told.at(CHECK, "wide 2", "wait day<399", "wait day<400", "wait day<1");
        CHECK.is("MET behind 400 days", x.ahead(0, 0, 400, 0), 400);
        CHECK.is("not behind 399", x.ahead(0, 0, 399, 0), -2);
        CHECK.is("it would be MET behind 401", x.ahead(1, 1, 400, 0), -2);
        CHECK.is("MET behind 2", x.ahead(2, 2, 2, 0), 2);
        CHECK.is("not behind 1", x.ahead(2, 2, 1, 0), -2);
        CHECK.is("not behind 0", x.ahead(-1, -1, 0, 0), -2);
        CHECK.is("MET behind 1", x.ahead(-1, -1, 1, 0), 1);
        x.spring(0, 0, 1);
        CHECK.is("401 is 400 days from now", x.ahead(1, 1, 400, 0), 401);
        CHECK.is("as day then is", x.ahead(0, 0, 399, 0), 400);
        x.spring(-1, -1, 1);
        CHECK.is("MET now, by 0 days", x.ahead(0, 0, 0, 0), 2);
        CHECK.is("MET now, by 400 days", x.ahead(1, 1, 400, 0), 2);
    }

    private static void aheadWhat() {
        CHECK.sentence("AHEAD what 0: the day at which it is MET (-2: not in these), 1: MISS of LINES then, 2: of HEIGHTS,"
                + " 3, 4: CROOKED of the left, the right, 5: 1 if IN TIME, else 0; NONE without these.");
        HalfBridge x = Told.at(CHECK, "wide 5;bank 0 10 20;bank 1 11 15;step 4;inches 3;flood 8 9", "turn 1;rise 0-1",
                "turn 0-2;rise 3");
        int[][] due = {{-2, 1, 5, 0, 0, 0}, {-2, 2, 1, 2, 5, 0}, {-2, 5, 3, 4, 10, 0}, {3, 6, 4, 6, 10, 0}};
        for (int n = 0; n < 4; n++) {
            for (int what = 0; what < 6; what++) {
                // The left's LINE is 10 to 13, the right's 11, 9, 7 and 7; HEIGHTS 20 to 17, 15, 18, 21 and 21.
                CHECK.is("ahead of " + n + ", what " + what, x.ahead(0, 1, n, what), due[n][what]);
            }
        }
        for (int inches = 3; inches <= 5; inches++) {
            x = Told.at(CHECK, "wide 2;bank 0 4 0;inches " + inches);
            CHECK.is("missed by 4 of " + inches, x.ahead(-1, -1, 1, 5), inches < 4 ? 0 : 1);
            CHECK.is("not MET yet", x.ahead(-1, -1, 0, 5), 0);
            x = Told.at(CHECK, "wide 2;bank 1 0 4;inches " + inches);
            CHECK.is("missed by 4 of " + inches, x.ahead(-1, -1, 1, 5), inches < 4 ? 0 : 1);
        }
    }

    private static void aheadRefused() {
        for (int n : Rich.beyond(0, 400)) {
            TOLD.refuses("ahead of " + n, x -> x.ahead(0, 1, n, 1), -1);
            MET.refuses("ahead of " + n, x -> x.ahead(0, 1, n, 0), -1);
        }
        for (int what : Rich.beyond(0, 5)) {
            TOLD.refuses("ahead, what " + what, x -> x.ahead(0, 1, 9, what), -1);
        }
        for (int rule : Rich.noRules()) {
            TOLD.refuses("ahead by the left's RULE " + rule, x -> x.ahead(rule, 0, 9, 1), -1);
            TOLD.refuses("ahead by the right's RULE " + rule, x -> x.ahead(0, rule, 9, 1), -1);
        }
        for (int what = 0; what < 6; what++) {
            int w = what;
            BARE.refuses("no RIVER: ahead, what " + what, x -> x.ahead(0, 1, 9, w), -1);
            BARE.refuses("no RIVER: ahead, what " + what, x -> x.ahead(-1, -1, 0, w), -1);
        }
    }

    private static void zigzags(String when, HalfBridge x, int left, int right, int leadIn, int period) {
        CHECK.is(when + ": LEAD-IN", x.zigzag(left, right, 0), leadIn);
        CHECK.is(when + ": DAYS till it comes again", x.zigzag(left, right, 1), period);
    }

    private static void zigzag() {
        CHECK.sentence("ZIGZAG by two RULES: SPRINGS without FLOODS,");
        HalfBridge x = Told.at(CHECK, "wide 9;flood 0 9;flood 1 9;flood 2 9;step 2", "wait yards=3", "pull yards=3", "pull yards=1",
                "wait 1=1");
        zigzags("three YARDS of the left", x, 0, 3, 3, 1);
        zigzags("three YARDS of the right", x, 3, 0, 3, 1);
        zigzags("two to three", x, 1, 3, 2, 2);
        zigzags("none and one", x, 3, 2, 0, 2);
        CHECK.sentence("the fewest DAYS behind which all YARDS come again later");
        zigzags("the right's rest later", x, 2, 0, 3, 2);
        zigzags("the left's rest later", x, 0, 2, 3, 2);
        x = Told.at(CHECK, "wide 9;step 2", "pull yards=1;turn 1", "pull yards=1;turn 0-other", "wait 1=1",
                "pull yards=1;rise 0-tall;turn 0-other", "pull yards=1;rise 1");
        zigzags("lines alone part them", x, 0, 1, 0, 2);
        x.build(1, 1, 0);
        // The left has none or 1, the right 1 or none, whose LINE is 0 or -1 by what the left's was.
        zigzags("not as it was at first", x, 0, 1, 1, 2);
        x.pull(1);
        x.build(1, 0, 1);
        zigzags("heights part them, too", x, 4, 3, 1, 2);
    }

    /**
     * One SIDE goes from 38 YARDS down to none and up again, as the other's one YARD tells it, 78 days each time. One of
     * its YARDS, built by hand, is odd, and so is another one each time that it builds: YARDS that are not so later come
     * not again, and it must have gone down to these first.
     */
    private static void everyYardComesAgain() {
        for (int odd = 0; odd <= 38; odd++) {
            for (int later : new int[] {0, 4, 5, 36, 37, 38}) {
                for (int i = 0; i < 4; i++) {
                    HalfBridge x = oddYard(i / 2, i % 2, odd, later);
                    int leadIn = odd == later ? 0 : 39 - Math.min(odd, later);
                    zigzags("odd at " + odd + ", later at " + later, x, i % 2 == 0 ? 1 : 0, i % 2, leadIn, 78);
                }
            }
        }
    }

    /** The odd YARD turns (kind 0) or rises (kind 1), while the other of these counts the YARDS; at 38 there is none. */
    private static HalfBridge oddYard(int kind, int side, int odd, int later) {
        String[] flags = {"pull tall=0 and yards=1;wait not [ tall=38 and yards=0 ];turn 1",
            "pull other=0 and yards=1;wait not [ other=38 and yards=0 ];rise 1"};
        String[] movers = {"pull other=1;wait yards=38;rise 1;turn 1 if yards=" + later,
            "pull tall=1;wait yards=38;turn 1;rise 1 if yards=" + later};
        HalfBridge x = Told.at(CHECK, "wide 40", flags[kind], movers[kind]);
        for (int i = 0; i < 38; i++) {
            int by = i == odd ? 1 : 0;
            x.build(side, kind == 0 ? by : 1, kind == 0 ? 1 : by);
        }
        return x;
    }

    /** Likewise; by hand a YARD has a RISE of 1 and the next one no TURN, later the first has no RISE and the next one a TURN. */
    private static void aRiseForATurn() {
        for (int odd = 1; odd < 36; odd++) {
            for (int side = 0; side < 2; side++) {
                HalfBridge x = Told.at(CHECK, "wide 40",
                        "pull other+tall=0 and yards=1;wait not [ other+tall=38 and yards=0 ];turn 1",
                        "pull other=1;wait yards=38;turn 1");
                for (int i = 0; i < 38; i++) {
                    x.build(side, i == odd + 1 ? 0 : 1, i == odd ? 1 : 0);
                }
                zigzags("a RISE at " + odd, x, side == 0 ? 1 : 0, side, 39 - odd, 78);
            }
        }
    }

    /** As many YARDS in all each day, and all straight: those of the one SIDE are not those of the other. */
    private static void asManyYards() {
        HalfBridge x = Told.at(CHECK, "wide 9", "wait yards=5", "pull 1=1");
        for (int i = 0; i < 5; i++) {
            x.build(1, 0, 0);
        }
        zigzags("five come to the left", x, 0, 1, 5, 1);
        x.spring(0, 1, 5);
        zigzags("five come to the right", x, 1, 0, 5, 1);
    }

    private static void zigzagAsOnThisDay() {
        CHECK.sentence("with both SIDES' ERRORS as on this very day each day (day as it is now in WORDS, too):");
        HalfBridge x = Told.at(CHECK, "wide 10;eyes 0 9;eyes 1 9;step 5", "wait other=0", "wait day=0", "wait 1=1",
                "wait other=0 and yards=1");
        x.err(0, 1, 9);
        x.err(1, 2, 9);
        zigzags("no ERROR on day 0: it waits", x, 0, 2, 0, 1);
        zigzags("day 0: it waits", x, 1, 2, 0, 1);
        x.spring(2, 2, 1);
        // By a GAP of 1 it sees no ERROR any more: 9 * 9 / 90 is 0.
        zigzags("an ERROR on day 1: it builds", x, 0, 2, 9, 1);
        zigzags("the right's is none then", x, 2, 0, 0, 1);
        zigzags("day 1: it builds till it is MET", x, 1, 2, 10, 1);
        x.spring(2, 2, 1);
        zigzags("none for the left on day 2", x, 0, 2, 0, 1);
        zigzags("one for the right on day 2", x, 2, 0, 9, 1);
    }

    private static void zigzagRests() {
        CHECK.sentence("how many till they come again (1: all rests).");
        HalfBridge x = Told.at(CHECK, "wide 9", "wait 1=1", "pull 1=1", "wait yards=1", "pull yards=2");
        zigzags("both wait", x, 0, 0, 0, 1);
        zigzags("both pull what is not there", x, 1, 1, 0, 1);
        zigzags("one YARD each", x, 2, 2, 1, 1);
        zigzags("one and two", x, 3, 3, 1, 2);
        CHECK.sentence("(When it is MET, all rests.)");
        zigzags("MET behind 5", x, -1, -1, 5, 1);
        zigzags("MET behind 8", x, 2, -1, 8, 1);
        x.spring(-1, -1, 9);
        zigzags("MET", x, 0, 0, 0, 1);
        zigzags("MET: none pulls", x, 1, 3, 0, 1);
    }

    /**
     * The right builds twenty YARDS when the left's are even and pulls them down when these are odd; the left builds one
     * each time that the right is at an end: 21 days for one of the left's. With 14 of these (day 294) the right stays.
     */
    private static void within300() {
        CHECK.sentence("within 300 DAYS (LEAD-IN),");
        String left = "wait not [ other=20 and yards/2*2=yards or other=0 and yards/2*2<yards ];turn 1";
        for (int last = 4; last <= 7; last++) {
            HalfBridge x = Told.at(CHECK, "wide 40", left,
                    "pull other/2*2<other;wait yards=20 or other=14 and yards=" + last + ";turn 1",
                    "pull other/2*2<other or other=14 and yards=" + (last + 1) + ";wait yards=20;turn 1");
            int rest = 294 + last;
            zigzags("it rests behind " + rest, x, 0, 1, rest < 300 ? rest : -2, rest < 300 ? 1 : -2);
            zigzags("two days come again behind " + rest, x, 0, 2, rest < 299 ? rest : -2, rest < 299 ? 2 : -2);
            x.spring(0, 1, 1);
            zigzags("it rests a day sooner", x, 0, 1, rest < 301 ? rest - 1 : -2, rest < 301 ? 1 : -2);
        }
    }

    private static void zigzagRefused() {
        CHECK.sentence("ZIGZAG what 0: LEAD-IN, 1: DAYS till it comes again; -2: not within 300; NONE without these.");
        for (int what : Rich.beyond(0, 1)) {
            TOLD.refuses("zigzag, what " + what, x -> x.zigzag(0, 1, what), -1);
            MET.refuses("zigzag, what " + what, x -> x.zigzag(0, 1, what), -1);
        }
        for (int rule : Rich.noRules()) {
            TOLD.refuses("zigzag by the left's RULE " + rule, x -> x.zigzag(rule, 0, 0), -1);
            TOLD.refuses("zigzag by the right's RULE " + rule, x -> x.zigzag(0, rule, 1), -1);
        }
        for (int what = 0; what < 2; what++) {
            int w = what;
            BARE.refuses("no RIVER: zigzag, what " + what, x -> x.zigzag(0, 1, w), -1);
            BARE.refuses("no RIVER: zigzag, what " + what, x -> x.zigzag(-1, -1, w), -1);
        }
        MET.refuses("MET: zigzag", x -> x.zigzag(0, 1, 0), 0);
        MET.refuses("MET: zigzag", x -> x.zigzag(-1, -1, 1), 1);
    }

    private static void whateverRows() {
        CHECK.sentence("WHATEVER: with k (0 to 3) days of ERRORS of a SIDE (from this day on, in place of those told;");
        HalfBridge x = Told.at(CHECK, "wide 6;eyes 0 9;eyes 1 9;step 20", "turn other-line", "turn 0");
        int[] all = {1, 3, 9, 27};
        for (int k = 0; k <= 3; k++) {
            CHECK.is("all rows of " + k, x.whatever(-1, -1, 9, 0, k, 9), all[k]);
            CHECK.is("all rows of " + k, x.whatever(-1, -1, 9, 1, k, 9), all[k]);
        }
        // MET behind three days: the left's last YARD is as seen on the third day, by GAP 2, 9 * 9 * 2 / 90.
        int[] lefts = {1, 3, 9, 9};
        for (int k = 0; k <= 3; k++) {
            CHECK.is("the third day alone tells, " + k, x.whatever(0, 1, 9, 0, k, 9), lefts[k]);
        }
        x.err(0, 2, 9);
        int[] told = {0, 0, 0, 9};
        for (int k = 0; k <= 3; k++) {
            CHECK.is("in place of the told one, " + k, x.whatever(0, 1, 9, 0, k, 9), told[k]);
            CHECK.is("of the other: as told, " + k, x.whatever(0, 1, 9, 1, k, 9), 0);
        }
        x.spring(0, 1, 1);
        int[] later = {0, 0, 3, 9};
        for (int k = 0; k <= 3; k++) {
            CHECK.is("from this day on, " + k, x.whatever(0, 1, 9, 0, k, 9), later[k]);
        }
    }

    private static void whateverErrors() {
        CHECK.sentence("each -1, 0 or 1 of them, times a told number 1 to 9):");
        // The left sees 7 by 0, 7 and 9 * times * 10 / 90 by one, so that it builds to 7 - times, 7 or 7 + times.
        for (int times = 1; times <= 9; times++) {
            for (int inches : new int[] {times - 1, times}) {
                HalfBridge x = Told.at(CHECK, "wide 10;bank 1 7 0;eyes 0 9;step 20;inches " + inches,
                        "turn other if yards=0;turn 0", "wait day<8;turn 0");
                CHECK.is("by " + times + " of " + inches, x.whatever(0, -1, 9, 0, 1, times), inches < times ? 1 : 3);
                CHECK.is("by none", x.whatever(0, -1, 9, 0, 0, times), 1);
            }
        }
        // -1, 0 and 1 are told apart: the bank is 4 off, and one of the three alone leads there.
        for (int off = -1; off <= 1; off++) {
            HalfBridge x = Told.at(CHECK, "wide 10;bank 0 9 0;bank 1 " + (20 + 4 * off) + " 0;eyes 0 9;step 20;inches 0",
                    "turn other-line-4 if yards=0;turn 0", "turn other-line+4 if yards=0;turn 0", "turn other-line if yards=0;turn 0");
            CHECK.is("by 1 alone", x.whatever(0, -1, 9, 0, 1, 4), 1);
            CHECK.is("by -1 alone", x.whatever(1, -1, 9, 0, 1, 4), 1);
            CHECK.is("by 0 alone", x.whatever(2, -1, 9, 0, 1, 4), 1);
            CHECK.is("by none of these", x.whatever(0, -1, 9, 0, 1, 5), 0);
            CHECK.is("told 0", x.whatever(0, -1, 9, 0, 0, 4), 0);
            x.err(0, 0, 4);
            CHECK.is("told 4", x.whatever(0, -1, 9, 0, 0, 4), 1);
        }
    }

    private static void whateverDays() {
        CHECK.sentence("of all such rows by how many it is IN TIME within n DAYS (0 to 60) by two RULES.");
        HalfBridge x = Told.at(CHECK, "wide 2", "wait day<59", "wait day<60");
        CHECK.is("in time behind 60", x.whatever(0, 0, 60, 0, 3, 9), 27);
        CHECK.is("not behind 59", x.whatever(0, 0, 59, 0, 3, 9), 0);
        CHECK.is("it would be behind 61", x.whatever(1, 1, 60, 0, 3, 9), 0);
        CHECK.is("not behind 0", x.whatever(-1, -1, 0, 0, 2, 9), 0);
        CHECK.is("behind 1", x.whatever(-1, -1, 1, 0, 2, 9), 9);
        x.spring(-1, -1, 1);
        CHECK.is("in time now, by 0 days", x.whatever(0, 1, 0, 1, 2, 9), 9);
        CHECK.is("in time now, by 60 days", x.whatever(0, 1, 60, 1, 1, 9), 3);
        x = Told.at(CHECK, "wide 2;bank 0 1 0");
        CHECK.is("MET, but missed", x.whatever(-1, -1, 60, 0, 3, 9), 0);
        // Both SIDES by their own: the right's told ERROR takes it off, or the row's in its place.
        x = Told.at(CHECK, "wide 10;eyes 0 9;eyes 1 9;step 20", "turn other if day=0;turn 0");
        x.err(1, 0, 3);
        CHECK.is("by the right's told one", x.whatever(0, 0, 9, 0, 0, 3), 0);
        CHECK.is("the left's by 3 is as the right's", x.whatever(0, 0, 9, 0, 1, 3), 1);
        CHECK.is("the right's in its place", x.whatever(0, 0, 9, 1, 1, 3), 1);
        x.err(0, 0, 3);
        CHECK.is("both as told", x.whatever(0, 0, 9, 1, 0, 3), 1);
        CHECK.is("the right's by 3 is as the left's", x.whatever(0, 0, 9, 1, 1, 3), 1);
        CHECK.is("the left's in its place", x.whatever(0, 0, 9, 0, 1, 4), 0);
    }

    private static void whateverRefused() {
        CHECK.sentence("WHATEVER; NONE without these.");
        for (int n : Rich.beyond(0, 60)) {
            TOLD.refuses("whatever of " + n, x -> x.whatever(0, 1, n, 0, 1, 1), -1);
            MET.refuses("whatever of " + n, x -> x.whatever(0, 1, n, 0, 1, 1), -1);
        }
        for (int k : Rich.beyond(0, 3)) {
            TOLD.refuses("whatever, k " + k, x -> x.whatever(0, 1, 9, 0, k, 1), -1);
            MET.refuses("whatever, k " + k, x -> x.whatever(0, 1, 9, 0, k, 1), -1);
        }
        for (int times : Rich.beyond(1, 9)) {
            TOLD.refuses("whatever, times " + times, x -> x.whatever(0, 1, 9, 0, 1, times), -1);
            TOLD.refuses("whatever, k 0, times " + times, x -> x.whatever(0, 1, 9, 1, 0, times), -1);
        }
        for (int rule : Rich.noRules()) {
            TOLD.refuses("whatever by the left's RULE " + rule, x -> x.whatever(rule, 0, 9, 0, 1, 1), -1);
            TOLD.refuses("whatever by the right's RULE " + rule, x -> x.whatever(0, rule, 9, 0, 1, 1), -1);
        }
        BARE.refuses("no RIVER: whatever", x -> x.whatever(0, 1, 9, 0, 1, 1), -1);
        BARE.refuses("no RIVER: whatever", x -> x.whatever(-1, -1, 0, 1, 0, 1), -1);
    }

    private static void mends(String when, HalfBridge x, int left, int right) {
        CHECK.is(when + ": of the left", x.mend(0), left);
        CHECK.is(when + ": of the right", x.mend(1), right);
    }

    private static void mend() {
        CHECK.sentence("MEND: the fewest YARDS pulled down from the TIPS, so many of the left, so many of the right, so that it can"
                + " be MET with YARDS of TURN at most step (either way):");
        HalfBridge x = Told.at(CHECK, "wide 4");
        for (int i = 0; i < 3; i++) {
            x.build(0, 1, 0);
        }
        // 3 and 0 with one YARD lacking: more than 2; 2 and 0 with two: at most 3.
        mends("one of the left", x, 1, 0);
        for (int i = 0; i < 3; i++) {
            x.pull(0);
            x.build(1, 0, -1);
        }
        mends("one of the right, by HEIGHTS", x, 0, 1);
        CHECK.sentence("of several the fewest of the left.");
        x = Told.at(CHECK, "wide 4");
        x.build(0, 1, 0);
        x.build(0, 1, 0);
        x.build(1, -1, 0);
        x.build(1, -1, 0);
        // 4 with none; 3 is more than 2 with one of either; 2 is at most 3 with two, one of each or two of one.
        mends("two of the right rather than one of each", x, 0, 2);
        CHECK.sentence("(0, if it is so now.)");
        mends("no YARDS", Told.at(CHECK, "wide 4"), 0, 0);
        x = Told.at(CHECK, "wide 2");
        x.build(0, 1, 0);
        x.build(1, 0, 0);
        mends("MET by a difference of step", x, 0, 0);
        x.pull(1);
        x.build(1, -1, 0);
        mends("MET by one of step and 1", x, 0, 1);
    }

    private static void mendBound() {
        CHECK.sentence("LINES of the TIPS then differ by at most step times (how many YARDS lack then and 1), HEIGHTS likewise;");
        for (int side = 0; side < 2; side++) {
            for (int step = 1; step <= 3; step++) {
                int most = step * 7;
                String river = "wide 6;step " + step + ";bank " + side + " ";
                mends("LINES by " + most, Told.at(CHECK, river + most + " 0"), 0, 0);
                mends("LINES by one more", Told.at(CHECK, river + (most + 1) + " 0"), -2, -2);
                mends("HEIGHTS by " + most, Told.at(CHECK, river + "0 " + most), 0, 0);
                mends("HEIGHTS by one more", Told.at(CHECK, river + "0 " + (most + 1)), -2, -2);
                mends("both by " + most, Told.at(CHECK, river + most + " " + most), 0, 0);
            }
        }
        for (int side = 0; side < 2; side++) {
            String river = "wide 6;bank " + (1 - side) + " 50 60;bank " + side + " ";
            mends("7 more than 50 and 60", Told.at(CHECK, river + "57 67"), 0, 0);
            mends("7 less than 50 and 60", Told.at(CHECK, river + "43 53"), 0, 0);
            mends("8 more than 50", Told.at(CHECK, river + "58 67"), -2, -2);
            mends("8 less than 60", Told.at(CHECK, river + "43 52"), -2, -2);
        }
        HalfBridge x = Told.at(CHECK, "wide 6;bank 1 6 0");
        x.build(0, 0, 0);
        mends("6 with five lacking", x, 0, 0);
        x.build(0, 0, 0);
        mends("6 with four lacking", x, 1, 0);
        x.build(0, 0, 0);
        mends("6 with three lacking", x, 2, 0);
        x = Told.at(CHECK, "wide 6;bank 1 8 0");
        x.build(0, 0, 0);
        x.build(1, 0, 0);
        mends("8 can't be, whatever is pulled down", x, -2, -2);
        for (int side = 0; side < 2; side++) {
            x = Told.at(CHECK, "wide 6;bank " + side + " 8 0");
            x.build(side, -1, 0);
            // 7 with five lacking is more than 6, 8 with six more than 7: the other one has none that could be pulled down.
            mends("8, a YARD towards the other", x, -2, -2);
        }
        x = Told.at(CHECK, "wide 40;bank 1 41 0");
        for (int i = 0; i < 39; i++) {
            x.build(0, 0, 0);
        }
        x.build(1, 0, 0);
        mends("all of both", x, 39, 1);
    }

    private static void mendRefused() {
        CHECK.sentence("MEND what 0: how many of the left, 1: of the right; -2: it can't be; NONE without these.");
        for (int what : Rich.beyond(0, 1)) {
            TOLD.refuses("mend(" + what + ")", x -> x.mend(what), -1);
            MET.refuses("mend(" + what + ")", x -> x.mend(what), -1);
        }
        BARE.refuses("no RIVER: mend(0)", x -> x.mend(0), -1);
        BARE.refuses("no RIVER: mend(1)", x -> x.mend(1), -1);
    }
}
