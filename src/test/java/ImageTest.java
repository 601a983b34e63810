/** Promises 24 to 26: counts and IMAGES. */
final class ImageTest {
    private static final Check CHECK = new Check("ImageTest");

    public static void main(String[] args) {
        counts();
        images();
        imageWithoutRiver();
        CHECK.close();
    }

    private static void counts(String when, HalfBridge x, int... due) {
        for (int what = 0; what < due.length; what++) {
            CHECK.is(when + ": count(" + what + ")", x.count(what), due[what]);
        }
        CHECK.is(when + ": count(10)", x.count(10), -1);
        CHECK.is(when + ": count(-1)", x.count(-1), -1);
    }

    private static void counts() {
        HalfBridge x = new HalfBridge();
        counts("new", x, 0, 0, 0, 0, 0, 0, 0, 0, 0, 0);
        Told.river(x, "wide 30;flood 1 1;flood 2 2;flood 3 3;step 7;inches 8");
        Told.rule(x, "turn 1");
        Told.rule(x, "turn 2");
        x.seed(99);
        x.ruin(1, 3, 4);
        x.feed(0, 0, 0, 0, 0);
        x.spring(0, 1, 1);
        counts("told", x, 30, 28, 1, 2, 3, 7, 8, 1, 99, 20);
    }

    private static void images() {
        HalfBridge x = new HalfBridge();
        CHECK.is("never made", x.back(0), -1);
        Told.river(x, "wide 9;bank 0 5 5;eyes 0 4;step 3;inches 2;flood 5 1");
        Told.rule(x, "turn 1");
        x.err(0, 3, 7);
        x.ruin(0, 1, 9);
        x.seed(11);
        x.spring(0, -1, 2);
        CHECK.is("image", x.image(2), 2);
        CHECK.is("image 4", x.image(4), -1);
        CHECK.is("image -1", x.image(-1), -1);
        x.spring(0, 0, 1);
        x.build(1, -3, 3);
        x.err(0, 3, -1);
        x.ruin(1, 1, 9);
        x.seed(12);
        CHECK.is("another", x.image(0), 3);
        Told.river(x, "wide 40");
        Told.rule(x, "turn 2");
        x.feed(0, 0, 0, 0, 0);
        CHECK.is("back 1", x.back(1), -1);
        CHECK.is("back 4", x.back(4), -1);
        CHECK.is("back -1", x.back(-1), -1);
        counts("nothing happened", x, 40, 40, 0, 2, 0, 1, 0, 0, 12, 20);
        CHECK.is("back", x.back(2), 2);
        counts("TAPE and RULES stay", x, 9, 5, 2, 2, 1, 3, 2, 1, 11, 20);
        CHECK.is("YARDS", x.yard(0, 1, 0), 7);
        CHECK.is("YARDS", x.tip(1, 0), 2);
        CHECK.is("eyes", x.tip(0, 6), 4);
        x.build(0, 3, 3);
        CHECK.is("ERRORS", x.err(0, 3, 5), 7);
        CHECK.is("the other", x.back(0), 3);
        counts("the other", x, 9, 2, 3, 2, 1, 3, 2, 2, 12, 20);
        CHECK.is("YARDS", x.yard(1, 3, 0) * 10 + x.yard(1, 3, 1), -17);
        CHECK.is("ERRORS", x.err(0, 3, 5), -1);
        CHECK.is("the first again, as it was made", x.back(2), 2);
        CHECK.is("YARDS", x.tip(0, 0), 2);
        CHECK.is("ERRORS", x.err(0, 3, 5), 7);
        CHECK.is("made anew", x.image(2), 2);
        x.err(0, 3, 0);
        x.back(2);
        CHECK.is("ERRORS", x.err(0, 3, 0), 5);
    }

    private static void imageWithoutRiver() {
        HalfBridge x = new HalfBridge();
        x.seed(5);
        CHECK.is("image", x.image(3), 0);
        Told.river(x, "wide 9");
        x.seed(6);
        x.spring(-1, -1, 1);
        CHECK.is("back", x.back(3), 0);
        counts("no RIVER", x, 0, 0, 0, 0, 0, 0, 0, 0, 5, 0);
        CHECK.is("no TIP", x.tip(0, 0), -100000);
        CHECK.is("no YARD", x.build(0, 0, 0), false);
    }
}
