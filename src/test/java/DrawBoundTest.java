import java.math.BigInteger;

/** DRAWS, LEAP, counts and IMAGES (part III of the document, promises 21 to 26), at each bound that it tells. */
final class DrawBoundTest {
    private static final Check CHECK = new Check("DrawBoundTest");
    private static final Rich TOLD = new Rich(CHECK, Rich::told);
    private static final Rich MET = new Rich(CHECK, Rich::met);
    private static final Rich BARE = new Rich(CHECK, Rich::bare);

    public static void main(String[] args) {
        seed();
        draws();
        odds();
        tries();
        triedDays();
        aheadOfLooking();
        nothingStays();
        triedWhat();
        triedRefused();
        leap();
        count();
        countBounds();
        image();
        back();
        allButTapeAndRules();
        imagesApart();
        CHECK.close();
    }

    private static int next(int x) {
        return BigInteger.valueOf(x).multiply(BigInteger.valueOf(1103515245)).add(BigInteger.valueOf(12345))
                .mod(BigInteger.TWO.pow(31)).intValueExact();
    }

    private static int draw(int x) {
        return next(x) / 65536 % 100;
    }

    private static void seed() {
        CHECK.sentence("x becomes a number: what it was; NONE, and nothing happens, below 0.");
        HalfBridge x = new HalfBridge();
        CHECK.is("0 at first", x.seed(0), 0);
        CHECK.is("seed", x.seed(1), 0);
        CHECK.is("seed", x.seed(2147483646), 1);
        CHECK.is("seed", x.seed(2147483647), 2147483646);
        CHECK.is("x", x.count(8), 2147483647);
        CHECK.is("seed", x.seed(-1), -1);
        CHECK.is("seed", x.seed(0), 2147483647);
        CHECK.is("x", x.count(8), 0);
        for (int wrong : new int[] {-1, -2, -100000, Integer.MIN_VALUE, Integer.MIN_VALUE + 1}) {
            TOLD.refuses("seed(" + wrong + ")", y -> y.seed(wrong), -1);
            BARE.refuses("no RIVER: seed(" + wrong + ")", y -> y.seed(wrong), -1);
        }
        TOLD.changes("seed(0)", y -> y.seed(0), 20202);
        BARE.changes("no RIVER: seed", y -> y.seed(2147483647), 10101);
    }

    /** By one day alone: whether the first DRAW took both YARDS. */
    private static int standing(int x, int odds) {
        HalfBridge b = new HalfBridge();
        Told.river(b, "wide 9");
        b.seed(x);
        return b.tried(-1, -1, 1, 1, odds, 1);
    }

    private static void draws() {
        CHECK.sentence("DRAWS: x (0 to 2147483647; 0 at first) becomes x * 1103515245 + 12345, of 2147483648 the rest;"
                + " a DRAW is x / 65536.");
        for (int x : new int[] {0, 1, 2, 65535, 65536, 1073741823, 1073741824, 2147483646, 2147483647}) {
            int draw = draw(x);
            CHECK.is("x " + x + " by its DRAW", standing(x, draw), 2);
            CHECK.is("x " + x + " by one more", standing(x, draw + 1), 0);
        }
        HalfBridge fresh = Told.at(CHECK, "wide 9");
        CHECK.is("x 0 draws 0", fresh.tried(-1, -1, 1, 1, 0, 1), 2);
        CHECK.is("x 0 draws 0", fresh.tried(-1, -1, 1, 1, 1, 1), 0);
        // Day by day and try by try x goes on: what stands is told by all DRAWS.
        for (int seed : new int[] {0, 7, 2147483647}) {
            HalfBridge b = Told.at(CHECK, "wide 40");
            b.seed(seed);
            int x = seed;
            int yards = 0;
            for (int i = 0; i < 20; i++) {
                int pairs = 0;
                for (int day = 0; day < 15; day++) {
                    pairs += draw(x) < 30 ? 0 : 1;
                    x = next(x);
                }
                yards += 2 * pairs;
            }
            CHECK.is("all DRAWS of " + seed, b.tried(-1, -1, 20, 15, 30, 1), yards);
        }
    }

    private static int seedOfDraw(int draw) {
        int x = 0;
        while (draw(x) != draw) {
            x++;
        }
        return x;
    }

    private static void odds() {
        CHECK.sentence("if a DRAW mod 100 is below a number (0 to 100), one YARD is taken from each TIP, too:");
        for (int draw : new int[] {0, 1, 50, 98, 99}) {
            int x = seedOfDraw(draw);
            for (int odds : new int[] {0, 1, 2, 50, 51, 98, 99, 100}) {
                CHECK.is("a DRAW of " + draw + " by " + odds, standing(x, odds), draw < odds ? 0 : 2);
            }
        }
        HalfBridge x = Told.at(CHECK, "wide 9", "wait 1=1");
        CHECK.is("none to be taken", x.tried(0, 0, 1, 1, 100, 1), 0);
        x.build(0, 0, 0);
        x.build(0, 0, 0);
        x.build(0, 0, 0);
        x.build(1, 0, 0);
        CHECK.is("one from each TIP", x.tried(0, 0, 1, 1, 100, 1), 2);
        CHECK.is("two of the left, as many as there are", x.tried(0, 0, 1, 2, 100, 1), 1);
        CHECK.is("never", x.tried(0, 0, 1, 200, 0, 1), 4);
        x = Told.at(CHECK, "wide 30;flood 0 1", "wait 1=1");
        for (int i = 0; i < 8; i++) {
            x.build(i % 2, 0, 0);
        }
        CHECK.is("and the FLOODS, too", x.tried(0, 0, 1, 1, 100, 1), 4);
    }

    private static void tries() {
        CHECK.sentence("TRIED m times (1 to 20), n DAYS (1 to 200) by two RULES, till it is MET;");
        HalfBridge x = Told.at(CHECK, "wide 4", "wait day<198", "wait day<199");
        for (int m : new int[] {1, 2, 19, 20}) {
            CHECK.is("how often of " + m, x.tried(-1, -1, m, 9, 0, 0), m);
            CHECK.is("YARDS of " + m, x.tried(-1, -1, m, 9, 0, 1), 4 * m);
        }
        CHECK.is("MET behind 200 days", x.tried(0, 0, 2, 200, 0, 0), 2);
        CHECK.is("not behind 199", x.tried(0, 0, 2, 199, 0, 0), 0);
        CHECK.is("two YARDS behind 199", x.tried(0, 0, 2, 199, 0, 1), 4);
        CHECK.is("it would be behind 201", x.tried(1, 1, 2, 200, 0, 0), 0);
        CHECK.is("two YARDS behind 200", x.tried(1, 1, 2, 200, 0, 1), 4);
        CHECK.is("one day", x.tried(-1, -1, 1, 1, 0, 1), 2);
        CHECK.is("two days", x.tried(-1, -1, 1, 2, 0, 0), 1);
        CHECK.is("one day is too few", x.tried(-1, -1, 1, 1, 0, 0), 0);
    }

    private static void triedDays() {
        HalfBridge x = Told.at(CHECK, "wide 4;flood 2 1", "pull 1=1");
        CHECK.is("no DAY behind the one that met it", x.tried(-1, -1, 1, 9, 0, 1), 4);
        x.spring(-1, -1, 9);
        CHECK.is("MET now: no DAY, no DRAW", x.tried(0, 0, 3, 200, 100, 1), 12);
        CHECK.is("IN TIME now", x.tried(0, 0, 3, 200, 100, 0), 3);
        x = Told.at(CHECK, "wide 2;bank 0 1 0");
        CHECK.is("MET, but missed", x.tried(-1, -1, 9, 9, 0, 0), 0);
        CHECK.is("its YARDS stand", x.tried(-1, -1, 9, 9, 0, 1), 18);
        x = Told.at(CHECK, "wide 2;bank 0 1 0;inches 1");
        CHECK.is("missed by inches", x.tried(-1, -1, 9, 9, 0, 0), 9);
        // Both SIDES by their own ERRORS of the day: the left turns to 9, the right to -9 and waits.
        x = Told.at(CHECK, "wide 10;eyes 0 9;eyes 1 9;step 20", "turn other if yards=0;turn 0", "wait yards=1;turn other");
        x.err(0, 0, 9);
        x.err(1, 0, -9);
        CHECK.is("missed by 18", x.tried(0, 1, 3, 99, 0, 0), 0);
        x.err(1, 0, 9);
        CHECK.is("both turn to 9", x.tried(0, 1, 3, 99, 0, 0), 3);
        x.err(0, 0, -9);
        CHECK.is("missed by 18", x.tried(0, 1, 3, 99, 0, 0), 0);
        x.err(1, 0, -9);
        CHECK.is("both turn to -9", x.tried(0, 1, 3, 99, 0, 0), 3);
    }

    private static void aheadOfLooking() {
        CHECK.sentence("behind each DAY (ahead of looking whether it is MET),");
        int taken = seedOfDraw(0);
        HalfBridge x = Told.at(CHECK, "wide 2");
        x.seed(taken);
        CHECK.is("the DRAW opens it again", x.tried(-1, -1, 1, 1, 1, 0), 0);
        CHECK.is("nothing stands", x.tried(-1, -1, 1, 1, 1, 1), 0);
        CHECK.is("always", x.tried(-1, -1, 20, 200, 100, 0), 0);
        CHECK.is("a day later", x.tried(-1, -1, 1, 2, 1, 0), draw(next(taken)) < 1 ? 0 : 1);
    }

    private static void nothingStays() {
        CHECK.sentence("how often it was IN TIME, YARDS that stood then, all together (nothing stays; x as it was).");
        for (int what = 0; what < 2; what++) {
            int w = what;
            int due = Rich.told().tried(0, 1, 20, 200, 40, w);
            TOLD.refuses("tried, what " + what, x -> x.tried(0, 1, 20, 200, 40, w), due);
            TOLD.refuses("tried twice, what " + what, x -> {
                x.tried(0, 1, 20, 200, 40, w);
                return x.tried(0, 1, 20, 200, 40, w);
            }, due);
        }
        HalfBridge x = Told.at(CHECK, "wide 4");
        int often = 0;
        int yards = 0;
        int seed = 99;
        x.seed(seed);
        for (int i = 0; i < 8; i++) {
            int pairs = 0;
            for (int day = 0; day < 3 && pairs < 2; day++) {
                pairs += draw(seed) < 40 ? 0 : 1;
                seed = next(seed);
            }
            often += pairs == 2 ? 1 : 0;
            yards += 2 * pairs;
        }
        CHECK.is("how often", x.tried(-1, -1, 8, 3, 40, 0), often);
        CHECK.is("YARDS", x.tried(-1, -1, 8, 3, 40, 1), yards);
        CHECK.is("some, not all", often > 0 && often < 8, true);
        CHECK.is("x as it was", x.count(8), 99);
    }

    private static void triedWhat() {
        CHECK.sentence("TRIED what 0: how often, 1: YARDS; NONE without these.");
        HalfBridge x = Told.at(CHECK, "wide 2");
        CHECK.is("how often", x.tried(-1, -1, 3, 5, 0, 0), 3);
        CHECK.is("YARDS", x.tried(-1, -1, 3, 5, 0, 1), 6);
        for (int what : Rich.beyond(0, 1)) {
            TOLD.refuses("tried, what " + what, y -> y.tried(0, 1, 3, 5, 50, what), -1);
        }
    }

    private static void triedRefused() {
        for (int m : Rich.beyond(1, 20)) {
            TOLD.refuses("tried " + m + " times", x -> x.tried(0, 1, m, 5, 50, 0), -1);
            MET.refuses("tried " + m + " times", x -> x.tried(0, 1, m, 5, 50, 1), -1);
        }
        for (int n : Rich.beyond(1, 200)) {
            TOLD.refuses("tried of " + n + " days", x -> x.tried(0, 1, 3, n, 50, 0), -1);
            MET.refuses("tried of " + n + " days", x -> x.tried(0, 1, 3, n, 50, 1), -1);
        }
        for (int odds : Rich.beyond(0, 100)) {
            TOLD.refuses("tried by " + odds, x -> x.tried(0, 1, 3, 5, odds, 0), -1);
            MET.refuses("tried by " + odds, x -> x.tried(0, 1, 3, 5, odds, 1), -1);
        }
        for (int rule : Rich.noRules()) {
            TOLD.refuses("tried by the left's RULE " + rule, x -> x.tried(rule, 0, 3, 5, 50, 0), -1);
            TOLD.refuses("tried by the right's RULE " + rule, x -> x.tried(0, rule, 3, 5, 50, 1), -1);
        }
        BARE.refuses("no RIVER: tried", x -> x.tried(0, 1, 3, 5, 50, 0), -1);
        BARE.refuses("no RIVER: tried", x -> x.tried(-1, -1, 1, 1, 0, 1), -1);
    }

    private static void leap() {
        CHECK.sentence("LEAP: a year that 4 divides, but not 100, or 400.");
        int leaps = 0;
        for (int from = 1; from <= 9999; from += 500) {
            HalfBridge x = new HalfBridge();
            for (int year = from; year < from + 500 && year <= 9999; year++) {
                int due = java.time.Year.isLeap(year) ? 1 : 0;
                CHECK.is("leap(" + year + ")", x.leap(year), due);
                leaps += due;
            }
        }
        CHECK.is("all of them", leaps, 2424);
        int[][] due = {{4, 1}, {96, 1}, {100, 0}, {104, 1}, {396, 1}, {399, 0}, {400, 1}, {401, 0}, {1900, 0}, {2000, 1}, {2023, 0},
            {2024, 1}, {9996, 1}};
        HalfBridge x = new HalfBridge();
        for (int[] d : due) {
            CHECK.is("leap(" + d[0] + ")", x.leap(d[0]), d[1]);
        }
        CHECK.sentence("LEAP: 1 if it is one, else 0; NONE for years below 1 or above 9999.");
        CHECK.is("leap(1)", x.leap(1), 0);
        CHECK.is("leap(9999)", x.leap(9999), 0);
        for (int year : new int[] {0, -1, -4, -400, 10000, 10001, 12000, Integer.MIN_VALUE, Integer.MAX_VALUE}) {
            TOLD.refuses("leap(" + year + ")", y -> y.leap(year), -1);
            BARE.refuses("leap(" + year + ")", y -> y.leap(year), -1);
        }
    }

    private static void count() {
        CHECK.sentence("What 0: how wide, 1: GAP, 2: day, 3: RULES, 4: FLOODS, 5: step, 6: inches (0 without a RIVER), 7: LINES in"
                + " the RUINS, 8: x, 9: bytes of the TAPE.");
        HalfBridge x = Told.at(CHECK, "wide 33;flood 9 1;flood 9 2;step 17;inches 64", "wait 1=1", "wait 1=1", "wait 1=1");
        x.spring(0, 0, 123);
        x.build(0, 0, 0);
        x.build(1, 0, 0);
        x.ruin(0, 3, 4);
        x.ruin(1, 3, 4);
        x.ruin(1, 4, 4);
        x.ruin(1, 4, 5);
        x.seed(2147483647);
        x.feed(0, 0, 0, 0, 0);
        x.end(19);
        int[] due = {33, 31, 123, 3, 2, 17, 64, 3, 2147483647, 19};
        for (int what = 0; what <= 9; what++) {
            CHECK.is("count(" + what + ")", x.count(what), due[what]);
        }
        HalfBridge bare = Rich.bare();
        int[] without = {0, 0, 0, 2, 0, 0, 0, 0, 10101, Rich.TAPE.length()};
        for (int what = 0; what <= 9; what++) {
            CHECK.is("no RIVER: count(" + what + ")", bare.count(what), without[what]);
        }
    }

    private static void countBounds() {
        CHECK.sentence("NONE for others.");
        for (int what : Rich.beyond(0, 9)) {
            TOLD.refuses("count(" + what + ")", x -> x.count(what), -1);
            MET.refuses("count(" + what + ")", x -> x.count(what), -1);
            BARE.refuses("count(" + what + ")", x -> x.count(what), -1);
        }
    }

    private static void image() {
        CHECK.sentence("An IMAGE is made: the day; NONE without it.");
        for (int k : Rich.beyond(0, 3)) {
            TOLD.refuses("image(" + k + ")", x -> x.image(k), -1);
            BARE.refuses("image(" + k + ")", x -> x.image(k), -1);
        }
        for (int k = 0; k <= 3; k++) {
            int n = k;
            TOLD.changes("image(" + k + ")", x -> x.image(n), 1);
            HalfBridge x = Told.at(CHECK, "wide 9", "wait 1=1");
            CHECK.is("never made", x.back(k), -1);
            CHECK.is("day 0", x.image(k), 0);
            x.spring(0, 0, 200);
            CHECK.is("day 200", x.image(k), 200);
            CHECK.is("the one made last", x.back(k), 200);
            CHECK.is("made without a RIVER", new HalfBridge().image(k), 0);
        }
    }

    private static void back() {
        CHECK.sentence("All is as in an IMAGE: the day; NONE, and nothing happens, if it was never made, or without it.");
        for (int k : Rich.beyond(0, 3)) {
            TOLD.refuses("back(" + k + ")", x -> x.back(k), -1);
            BARE.refuses("back(" + k + ")", x -> x.back(k), -1);
        }
        TOLD.refuses("never made: back(2)", x -> x.back(2), -1);
        for (int k = 1; k <= 3; k++) {
            int n = k;
            BARE.refuses("never made: back(" + k + ")", x -> x.back(n), -1);
        }
        TOLD.changes("back(0), to no RIVER", x -> x.back(0), 0);
        TOLD.changes("back(1)", x -> x.back(1), 1);
        TOLD.changes("back(3)", x -> x.back(3), 1);
        BARE.refuses("back(0), as it is now", x -> x.back(0), 0);
    }

    /** An IMAGE of each number, then all is changed that can be; gone back to, all is as it was. */
    private static void allButTapeAndRules() {
        CHECK.sentence("IMAGES 0 to 3: all but the TAPE and the RULES, as it is; gone back to, it is as it was (these stay).");
        for (int k = 0; k <= 3; k++) {
            HalfBridge as = Rich.told();
            as.image(k);
            String due = Portrait.of(as);
            HalfBridge x = Rich.told();
            x.image(k);
            x.spring(0, 1, 1);
            x.build(0, 1, 1);
            x.pull(1);
            x.err(0, 1, -3);
            x.err(1, 6, 4);
            x.ruin(0, 0, 1);
            x.ruin(1, 5, 1);
            x.seed(4);
            CHECK.is("back(" + k + ")", x.back(k), 1);
            CHECK.same("as it was", Portrait.of(x), due);
            x = Rich.told();
            x.image(k);
            x.end(0);
            Told.river(x, "wide 5;bank 0 9 9;eyes 0 1;step 9;inches 9;flood 1 1");
            x.spring(0, 1, 1);
            Told.tape(x, Rich.TAPE);
            CHECK.is("back(" + k + ") over a new RIVER", x.back(k), 1);
            CHECK.same("as it was", Portrait.of(x), due);
            tapeAndRulesStay(k);
        }
    }

    private static void tapeAndRulesStay(int k) {
        HalfBridge x = Rich.told();
        x.image(k);
        x.end(0);
        CHECK.is("a third RULE", Told.rule(x, "turn 3"), 2);
        Told.tape(x, "turn 1;turn 2");
        x.end(6);
        x.back(k);
        CHECK.is("the TAPE stays", x.count(9), 6);
        CHECK.is("the RULES stay", x.count(3), 3);
        CHECK.is("the third is as it was told", x.ahead(2, -1, 1, 3), x.tip(0, 3) + 3);
        CHECK.is("the TAPE is as it was told", x.rule(), 3);
        CHECK.is("of its six bytes", x.ahead(3, -1, 1, 3), x.tip(0, 3) + 1);
    }

    private static void imagesApart() {
        HalfBridge x = Told.at(CHECK, "wide 30;step 9");
        for (int k = 0; k < 4; k++) {
            x.build(0, k + 1, 0);
            x.err(0, k, k + 1);
            x.ruin(1, k, k);
            x.seed(100 + k);
            x.spring(-1, -1, 1);
            CHECK.is("image(" + k + ")", x.image(k), k + 1);
        }
        for (int turn = 0; turn < 2; turn++) {
            for (int k = 3; k >= 0; k--) {
                CHECK.is("back(" + k + ")", x.back(k), k + 1);
                CHECK.is("its YARDS", x.tip(0, 0), 2 * k + 2);
                CHECK.is("its LINE", x.tip(0, 1), (k + 1) * (k + 2) / 2);
                CHECK.is("its RUINS", x.count(7), k + 1);
                CHECK.is("its x", x.count(8), 100 + k);
                for (int place = 0; place < 4; place++) {
                    CHECK.is("its ERROR at " + place, x.err(0, place, -9), place <= k ? place + 1 : 0);
                }
                // What is done behind it does nothing to the IMAGE.
                x.build(1, 9, 9);
                x.pull(0);
                x.seed(5);
                x.ruin(0, 39, 0);
            }
        }
    }
}
