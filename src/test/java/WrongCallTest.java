import java.util.Random;

/** Every call without a RIVER, and every call by the wildest numbers: none may throw, each answers as told. */
final class WrongCallTest {
    private static final Check CHECK = new Check("WrongCallTest");
    private static final int NO = -100000;
    private static final int[] WILD = {Integer.MIN_VALUE, Integer.MIN_VALUE + 1, -100000, -400, -2, -1, 0, 1, 2, 3, 5, 6,
        7, 8, 9, 39, 40, 41, 60, 200, 400, 401, 9999, 65536, Integer.MAX_VALUE - 1, Integer.MAX_VALUE};

    public static void main(String[] args) {
        withoutRiver();
        wild();
        CHECK.close();
    }

    private static void withoutRiver() {
        HalfBridge x = new HalfBridge();
        Told.rule(x, "turn 1");
        CHECK.is("yard", x.yard(0, 0, 0), NO);
        CHECK.is("err", x.err(0, 0, 0), NO);
        CHECK.is("build", x.build(0, 0, 0), false);
        CHECK.is("pull", x.pull(0), false);
        CHECK.is("spring", x.spring(0, 0, 1), -1);
        CHECK.is("spring", x.spring(-1, -1, 1), -1);
        CHECK.is("ruin", x.ruin(0, 0, 0), false);
        CHECK.is("ruin", x.ruin(0, -1, 0), false);
        CHECK.is("whatever", x.whatever(0, 0, 0, 0, 0, 1), -1);
        for (int what = 0; what <= 8; what++) {
            CHECK.is("tip", x.tip(0, what), NO);
            CHECK.is("miss", x.miss(what), -1);
            CHECK.is("ahead", x.ahead(0, 0, 0, what), -1);
            CHECK.is("zigzag", x.zigzag(0, 0, what), -1);
            CHECK.is("straight", x.straight(0, 0, what), NO);
            CHECK.is("spite", x.spite(0, 0, 0, what), NO);
            CHECK.is("mend", x.mend(what), -1);
            CHECK.is("erred", x.erred(0, 0, 4, 1, what), -1);
            CHECK.is("tried", x.tried(0, 0, 1, 1, 0, what), -1);
        }
    }

    private static void wild() {
        Random random = new Random(4);
        int calls = 0;
        for (int run = 0; run < 60; run++) {
            HalfBridge x = new HalfBridge();
            if (run % 3 > 0) {
                Told.river(x, run % 2 == 0 ? "wide 3;eyes 0 9;eyes 1 9" : "wide 40;step 20;eyes 0 9;flood 1 9");
                Told.rule(x, "turn other - line;pull yards > 3");
            }
            for (int i = 0; i < 500; i++) {
                int[] n = new int[6];
                for (int j = 0; j < 6; j++) {
                    n[j] = WILD[random.nextInt(WILD.length)];
                }
                call(x, i % 24, n);
                calls++;
            }
        }
        CHECK.is("calls that came to an end", calls, 30000);
    }

    private static void call(HalfBridge x, int which, int[] n) {
        switch (which) {
            case 0 -> x.feed(n[0], n[1], n[2], n[3], n[4]);
            case 1 -> x.end(n[0]);
            case 2 -> x.river();
            case 3 -> x.rule();
            case 4 -> x.yard(n[0], n[1], n[2]);
            case 5 -> x.tip(n[0], n[1]);
            case 6 -> x.err(n[0], n[1], n[2]);
            case 7 -> x.build(n[0], n[1], n[2]);
            case 8 -> x.pull(n[0]);
            case 9 -> x.spring(n[0], n[1], n[2]);
            case 10 -> x.miss(n[0]);
            case 11 -> x.ahead(n[0], n[1], n[2], n[3]);
            case 12 -> x.zigzag(n[0], n[1], n[2]);
            case 13 -> x.whatever(n[0], n[1], n[2], n[3], n[4], n[5]);
            case 14 -> x.straight(n[0], n[1], n[2]);
            case 15 -> x.spite(n[0], n[1], n[2], n[3]);
            case 16 -> x.mend(n[0]);
            case 17 -> x.ruin(n[0], n[1], n[2]);
            case 18 -> x.erred(n[0], n[1], n[2], n[3], n[4]);
            case 19 -> x.seed(n[0]);
            case 20 -> x.tried(n[0], n[1], n[2], n[3], n[4], n[5]);
            case 21 -> x.leap(n[0]);
            case 22 -> x.count(n[0]);
            default -> {
                x.image(n[0]);
                x.back(n[1]);
            }
        }
    }
}
