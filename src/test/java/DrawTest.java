/** Promises 21 to 23: the seed, TRIED by DRAWS, leap years. */
final class DrawTest {
    private static final Check CHECK = new Check("DrawTest");

    public static void main(String[] args) {
        seeds();
        tried();
        byDraws();
        leaps();
        CHECK.close();
    }

    private static void seeds() {
        HalfBridge x = new HalfBridge();
        CHECK.is("at first", x.seed(7), 0);
        CHECK.is("below 0", x.seed(-1), -1);
        CHECK.is("below 0", x.seed(Integer.MIN_VALUE), -1);
        CHECK.is("x", x.count(8), 7);
        CHECK.is("the most", x.seed(2147483647), 7);
        CHECK.is("x", x.seed(0), 2147483647);
    }

    private static void tried() {
        HalfBridge x = new HalfBridge();
        Told.river(x, "wide 4");
        Told.rule(x, "wait 1 = 1");
        CHECK.is("never a draw", x.tried(-1, -1, 20, 200, 0, 0), 20);
        CHECK.is("all YARDS", x.tried(-1, -1, 20, 200, 0, 1), 80);
        CHECK.is("one day alone", x.tried(-1, -1, 5, 1, 0, 0), 0);
        CHECK.is("its YARDS", x.tried(-1, -1, 5, 1, 0, 1), 10);
        CHECK.is("always a draw", x.tried(-1, -1, 20, 200, 100, 0), 0);
        CHECK.is("no YARDS", x.tried(-1, -1, 20, 200, 100, 1), 0);
        x.build(0, 0, 0);
        CHECK.is("what stands goes too", x.tried(0, 0, 3, 1, 100, 1), 0);
        CHECK.is("what stands stays", x.tried(0, 0, 3, 9, 0, 1), 3);
        int[][] wrong = {{1, 0, 1, 1, 1, 0}, {0, 1, 1, 1, 1, 0}, {-2, 0, 1, 1, 1, 0}, {0, -2, 1, 1, 1, 0},
            {0, 0, 0, 1, 1, 0}, {0, 0, 21, 1, 1, 0}, {0, 0, 1, 0, 1, 0}, {0, 0, 1, 201, 1, 0}, {0, 0, 1, 1, -1, 0},
            {0, 0, 1, 1, 101, 0}, {0, 0, 1, 1, 1, 2}, {0, 0, 1, 1, 1, -1}};
        for (int[] w : wrong) {
            CHECK.is("wrong", x.tried(w[0], w[1], w[2], w[3], w[4], w[5]), -1);
        }
        Told.river(x, "wide 2;bank 1 1 0");
        CHECK.is("MET but missed", x.tried(-1, -1, 20, 200, 0, 0), 0);
        CHECK.is("YARDS of these", x.tried(-1, -1, 20, 200, 0, 1), 40);
        CHECK.is("a draw ahead of looking", x.tried(-1, -1, 20, 200, 100, 1), 0);
        x.spring(-1, -1, 1);
        CHECK.is("MET now: no day, no draw", x.tried(-1, -1, 20, 200, 100, 1), 40);
    }

    /** Two YARDS a day, two taken by a DRAW: the count of days without one is all that there is. */
    private static void byDraws() {
        HalfBridge x = new HalfBridge();
        Told.river(x, "wide 6;flood 1 1");
        for (int seed : new int[] {0, 1, 12345, 2147483647}) {
            for (int odds = 0; odds <= 100; odds += 10) {
                x.seed(seed);
                long draw = seed;
                int met = 0;
                int yards = 0;
                for (int i = 0; i < 7; i++) {
                    int pairs = 0;
                    for (int day = 0; day < 9 && pairs < 3; day++) {
                        draw = (draw * 1103515245L + 12345L) % 2147483648L;
                        pairs = pairs + 1 - (day == 1 ? 1 : 0);
                        pairs -= draw / 65536 % 100 < odds && pairs > 0 ? 1 : 0;
                    }
                    met += pairs == 3 ? 1 : 0;
                    yards += 2 * pairs;
                }
                CHECK.is("in time, seed " + seed + ", odds " + odds, x.tried(-1, -1, 7, 9, odds, 0), met);
                CHECK.is("YARDS, seed " + seed + ", odds " + odds, x.tried(-1, -1, 7, 9, odds, 1), yards);
                CHECK.is("x as it was", x.count(8), seed);
            }
        }
    }

    private static void leaps() {
        HalfBridge x = new HalfBridge();
        int[] leaps = {4, 400, 1600, 1996, 2000, 2004, 9996};
        for (int year : leaps) {
            CHECK.is("leap(" + year + ")", x.leap(year), 1);
        }
        int[] others = {1, 100, 1900, 2001, 2002, 2100, 9900, 9999};
        for (int year : others) {
            CHECK.is("leap(" + year + ")", x.leap(year), 0);
        }
        int[] wrong = {0, -4, -400, 10000, Integer.MIN_VALUE, Integer.MAX_VALUE};
        for (int year : wrong) {
            CHECK.is("leap(" + year + ")", x.leap(year), -1);
        }
    }
}
