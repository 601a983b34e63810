/** A new object and its TAPE (promises 1 to 3), at each bound that the document tells of them. */
final class TapeBoundTest {
    private static final Check CHECK = new Check("TapeBoundTest");
    private static final Rich TOLD = new Rich(CHECK, Rich::told);
    private static final Rich FULL = new Rich(CHECK, TapeBoundTest::full);

    public static void main(String[] args) {
        newObject();
        calls();
        feeding();
        fullTape();
        ending();
        CHECK.close();
    }

    private static void newObject() {
        CHECK.sentence("No RIVER, no RULES.");
        HalfBridge x = new HalfBridge();
        for (int what = 0; what <= 9; what++) {
            CHECK.is("new: count(" + what + ")", x.count(what), 0);
        }
        for (int side = 0; side < 2; side++) {
            for (int what = 0; what < 7; what++) {
                CHECK.is("new: tip", x.tip(side, what), -100000);
            }
            CHECK.is("new: yard", x.yard(side, 0, 0), -100000);
            CHECK.is("new: build", x.build(side, 0, 0), false);
            CHECK.is("new: pull", x.pull(side), false);
        }
        CHECK.is("new: no RIVER for NONE and NONE", x.spring(-1, -1, 1), -1);
        for (int k = 0; k < 4; k++) {
            CHECK.is("new: no IMAGE", x.back(k), -1);
        }
        Told.river(x, "wide 2");
        CHECK.is("no RULE 0", x.spring(0, -1, 1), -1);
        CHECK.is("no RULE 0", x.spring(-1, 0, 1), -1);
        CHECK.is("the first RULE is 0", Told.rule(x, "turn 1"), 0);
        CHECK.is("RULE 0 now", x.spring(0, -1, 1), 1);
        CHECK.is("another object has none", new HalfBridge().count(3), 0);
        CHECK.sentence("The constants: `NONE = -1`: None.");
        CHECK.is("NONE", HalfBridge.NONE, -1);
    }

    private static void calls() {
        CHECK.sentence("An object is used for at most 512 calls after it has been made; what later calls answer is free.");
        HalfBridge x = new HalfBridge();
        int last = 0;
        for (int i = 1; i <= 512; i++) {
            last = x.seed(i);
        }
        CHECK.is("the 512th call answers by the 511th", last, 511);
        for (int i = 0; i < 600; i++) {
            x.feed(i, i, i, i, i);
        }
        CHECK.is("later calls come to an end, too", x != null, true);
    }

    /** The text and 380 blanks: 393 bytes. */
    private static HalfBridge full() {
        HalfBridge x = Rich.told();
        for (int i = 0; i < 19; i++) {
            x.feed(0x20202020, 0x20202020, 0x20202020, 0x20202020, 0x20202020);
        }
        return x;
    }

    private static void feeding() {
        CHECK.sentence("Twenty bytes come behind the TAPE, of each number the highest first: how many it has;");
        HalfBridge x = new HalfBridge();
        CHECK.is("feed", x.feed(0x77696465, 0x2031323b, 0x62616e6b, 0x20312037, 0x38203930), 20);
        CHECK.is("feed behind it", x.feed(0x3b696e63, 0x68657320, 0x39343b73, 0x74657020, 0x31352020), 40);
        CHECK.is("wide 12;bank 1 78 90;inches 94;step 15", x.river(), 12);
        CHECK.is("of the first number", x.count(0), 12);
        CHECK.is("of the fourth number", x.tip(1, 1), 78);
        CHECK.is("of the fifth number", x.tip(1, 2), 90);
        CHECK.is("behind it", x.count(6), 94);
        CHECK.is("behind it", x.count(5), 15);
        for (int place = 0; place < 20; place++) {
            byte[] bytes = Told.bytes("wide 4 ;  step 3    ");
            bytes[place] = (byte) 255;
            int[] n = Told.numbers(bytes, 0);
            x.feed(n[0], n[1], n[2], n[3], n[4]);
            int due = place < 4 ? 0 : place < 10 ? place : place < 14 ? 10 : place;
            CHECK.is("a byte of 255 at place " + place, x.river(), -2 - (1 + 8 * due));
        }
    }

    /** Tapes of 380 and 381 bytes: the one has room for twenty more. */
    private static void fullTape() {
        CHECK.sentence("NONE, and none comes, if it would have more than 400.");
        for (int size : new int[] {380, 381, 399, 400}) {
            HalfBridge x = new HalfBridge();
            for (int i = 1; i <= 20; i++) {
                CHECK.is("feed", x.feed(0, 0, 0, 0, 0), 20 * i);
            }
            CHECK.is("end", x.end(size), size);
            CHECK.is("feed behind " + size, x.feed(0, 0, 0, 0, 0), size == 380 ? 400 : -1);
            CHECK.is("bytes behind it", x.count(9), size == 380 ? 400 : size);
            CHECK.is("feed once more", x.feed(0, 0, 0, 0, 0), -1);
        }
        FULL.refuses("feed of a full TAPE", x -> x.feed(0x3b737465, 0x70203230, 0, 0, 0), -1);
        TOLD.changes("feed of one with room", x -> x.feed(0x3b737465, 0x70203230, 0, 0, 0), Rich.TAPE.length() + 20);
    }

    private static void ending() {
        CHECK.sentence("The TAPE has its first n bytes alone: n;");
        for (int n = 0; n <= 20; n++) {
            HalfBridge x = new HalfBridge();
            x.feed(0x77696465, 0x20343020, 0x3b737465, 0x70203137, 0x20202020);
            CHECK.is("end(" + n + ")", x.end(n), n);
            CHECK.is("bytes", x.count(9), n);
            // wide 40 ;step 17
            int due = n < 6 ? -2 - (1 + 8 * fault(n)) : n == 6 ? 4 : n < 9 ? 40 : n < 15 ? -2 - (1 + 8 * fault(n)) : 40;
            CHECK.is("river of the first " + n, x.river(), due);
            CHECK.is("its step", x.count(5), n < 6 || n > 8 && n < 15 ? 0 : n < 9 ? 1 : n == 15 ? 1 : 17);
        }
        HalfBridge cut = new HalfBridge();
        Told.tape(cut, "wait 1<=2;turn 1");
        cut.end(7);
        CHECK.is("what stood behind is gone", cut.rule(), -2 - (1 + 8 * 7));
        Told.tape(cut, "turn 1+1+1+1+1+1");
        CHECK.is("a rule", cut.rule(), 0);
        Told.tape(cut, "turn 1");
        CHECK.is("a shorter one", cut.rule(), 1);
        Told.river(cut, "wide 9;step 9");
        CHECK.is("of its own bytes alone", cut.ahead(1, -1, 1, 3), 1);
        CHECK.sentence("NONE, and nothing happens, if it has not so many, or n is below 0.");
        int size = Rich.TAPE.length();
        TOLD.changes("one byte less", x -> x.end(size - 1), size - 1);
        TOLD.refuses("as many as it has", x -> x.end(size), size);
        TOLD.refuses("one more", x -> x.end(size + 1), -1);
        TOLD.changes("none", x -> x.end(0), 0);
        for (int n : new int[] {-1, Integer.MIN_VALUE, Integer.MAX_VALUE, 400, 401}) {
            TOLD.refuses("end(" + n + ")", x -> x.end(n), -1);
        }
        FULL.refuses("end of all that a full TAPE has", x -> x.end(393), 393);
        FULL.refuses("end of one more", x -> x.end(394), -1);
        HalfBridge x = new HalfBridge();
        CHECK.is("end(0) of none", x.end(0), 0);
        CHECK.is("end(1) of none", x.end(1), -1);
    }

    /** Where a text cut behind n bytes can't go on: a word begun can't stand, else the end. */
    private static int fault(int n) {
        if (n < 4) {
            return 0;
        }
        return n > 9 && n < 13 ? 9 : n;
    }
}
