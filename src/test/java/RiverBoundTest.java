/** RIVERS (part I of the document, promise 4), at each bound that it tells of them. */
final class RiverBoundTest {
    private static final Check CHECK = new Check("RiverBoundTest");
    private static final String UNTOUCHED = Portrait.of(Rich.emptied());

    public static void main(String[] args) {
        bytes();
        clauses();
        wide();
        wideFirst();
        bank();
        eyes();
        step();
        inches();
        flood();
        floodDays();
        digits();
        blanks();
        firstFault();
        outOfPlace();
        everyByte();
        inPlace();
        CHECK.close();
    }

    private static HalfBridge stands(String text, int wide) {
        HalfBridge x = new HalfBridge();
        CHECK.is("river '" + text + "'", Told.river(x, text), wide);
        CHECK.is("count(0) of '" + text + "'", x.count(0), wide);
        CHECK.is("count(9) of '" + text + "'", x.count(9), 0);
        return x;
    }

    /** A FAULT is told, and all stays as it was but for the TAPE, which is empty. */
    private static void faulty(String text, int place, int kind) {
        HalfBridge x = Rich.emptied();
        CHECK.is("river '" + text + "'", Told.river(x, text), -2 - (1 + 8 * place + kind));
        CHECK.same("all stays behind '" + text + "'", Portrait.of(x), UNTOUCHED);
    }

    private static void bytes() {
        CHECK.sentence("A RIVER is a text of at most 400 bytes:");
        HalfBridge x = stands("wide 4" + " ".repeat(387) + ";step 7", 4);
        CHECK.is("the 400th byte is of it", x.count(5), 7);
        x = new HalfBridge();
        Told.tape(x, "wide 4" + " ".repeat(387) + ";step 1");
        CHECK.is("no byte more comes", x.feed(0x37202020, 0x20202020, 0x20202020, 0x20202020, 0x20202020), -1);
        CHECK.is("river of 400 bytes", x.river(), 4);
        CHECK.is("its step", x.count(5), 1);
        faulty("wide 4" + " ".repeat(387) + ";steps1", 394, 0);
        faulty("wide 4" + " ".repeat(392) + ";;", 399, 0);
    }

    private static void clauses() {
        CHECK.sentence("CLAUSE { ; CLAUSE }, 24 at most:");
        faulty("", 0, 0);
        stands("wide 4", 4);
        stands("wide 4;step 1", 4);
        String most = "wide 4" + ";eyes 1 3".repeat(22);
        stands(most, 4);
        CHECK.is("the 24th tells, too", stands(most + ";eyes 0 8", 4).tip(0, 6), 8);
        for (String more : new String[] {"eyes 0 8", "wide 4", "bank 0 1 1", "step 1", "inches 1", "flood 1 1", "step"}) {
            faulty(most + ";eyes 0 8;" + more, 214, 4);
        }
        faulty(most + ";eyes 0 8;", 214, 0);
        faulty(most + ";eyes 0 8;turn 1", 214, 0);
        faulty(most + ";eyes 0 8 ; eyes 0 8", 216, 4);
    }

    private static void wide() {
        CHECK.sentence("wide NUMBER (2 to 40 yards; once, the first CLAUSE)");
        for (int wide = 0; wide <= 42; wide++) {
            if (wide < 2 || wide > 40) {
                faulty("wide " + wide, 5, 1);
            } else {
                CHECK.is("GAP of " + wide, stands("wide " + wide, wide).count(1), wide);
            }
        }
        for (int wide : new int[] {2, 40}) {
            for (int side = 0; side < 2; side++) {
                HalfBridge x = stands("wide " + wide, wide);
                for (int i = 0; i < wide; i++) {
                    CHECK.is("yard " + i + " of " + wide, x.build(side, 1, -1), true);
                }
                CHECK.is("one more than " + wide, x.build(side, 0, 0), false);
                CHECK.is("one more than " + wide, x.build(1 - side, 0, 0), false);
                CHECK.is("the last of " + wide, x.yard(side, wide - 1, 0), wide);
            }
        }
    }

    private static void wideFirst() {
        CHECK.sentence("4 one CLAUSE too many, a second wide, step or inches, another CLAUSE ahead of wide, a ninth flood"
                + " (at its first byte).");
        faulty("wide 4;wide 4", 7, 4);
        faulty("wide 4; wide", 8, 4);
        faulty("wide 4;step 1;wide 5", 14, 4);
        for (String other : new String[] {"bank 0 1 1", "eyes 0 1", "step 1", "inches 1", "flood 1 1", "bank"}) {
            faulty(other + ";wide 4", 0, 4);
            faulty("   " + other, 3, 4);
        }
        stands("wide 4;step 2", 4);
        faulty("wide 4;step 2;step 2", 14, 4);
        faulty("wide 4;step 2;eyes 0 1; step", 24, 4);
        stands("wide 4;inches 2", 4);
        faulty("wide 4;inches 2;inches 2", 16, 4);
        faulty("wide 4;inches 0; inches 0", 17, 4);
        String floods = "wide 4" + ";flood 1 1".repeat(8);
        CHECK.is("eight floods", stands(floods, 4).count(4), 8);
        faulty(floods + ";flood 1 1", 87, 4);
        faulty(floods + ";step 2; flood", 95, 4);
        stands(floods + ";step 2;inches 2;bank 0 1 1;bank 0 2 2;eyes 0 1;eyes 0 2", 4);
    }

    private static void bank() {
        CHECK.sentence("bank NUMBER NUMBER NUMBER (a SIDE; LINE and HEIGHT of its bank, 0 to 99 each;"
                + " of one the last told; 0 and 0 without)");
        for (int side = 0; side < 2; side++) {
            for (int number : new int[] {0, 1, 98, 99}) {
                HalfBridge x = stands("wide 4;bank " + side + " " + number + " " + (99 - number), 4);
                CHECK.is("line of " + side, x.tip(side, 1), number);
                CHECK.is("height of " + side, x.tip(side, 2), 99 - number);
                CHECK.is("line without", x.tip(1 - side, 1), 0);
                CHECK.is("height without", x.tip(1 - side, 2), 0);
            }
            faulty("wide 4;bank " + side + " 100 1", 14, 1);
            faulty("wide 4;bank " + side + " 1 100", 16, 1);
            faulty("wide 4;bank " + side + " -1 1", 14, 0);
            faulty("wide 4;bank " + side + " 1 -1", 16, 0);
            faulty("wide 4;bank " + side + " 1", 15, 0);
            faulty("wide 4;bank " + side + " 1;", 15, 0);
            faulty("wide 4;bank " + side + " 1 1 1", 18, 0);
            HalfBridge x = stands("wide 4;bank " + side + " 99 98;bank " + (1 - side) + " 5 6;bank " + side + " 7 0", 4);
            CHECK.is("the last line told", x.tip(side, 1), 7);
            CHECK.is("the last height told", x.tip(side, 2), 0);
            CHECK.is("the other's line", x.tip(1 - side, 1), 5);
            CHECK.is("the other's height", x.tip(1 - side, 2), 6);
        }
        faulty("wide 4;bank 2 1 1", 12, 1);
        faulty("wide 4;bank -1 1 1", 12, 0);
        faulty("wide 4;bank", 11, 0);
    }

    private static void eyes() {
        CHECK.sentence("eyes NUMBER NUMBER (a SIDE, 0 to 9; 0 without; of one the last told)");
        for (int side = 0; side < 2; side++) {
            for (int eyes = 0; eyes <= 9; eyes++) {
                HalfBridge x = stands("wide 4;eyes " + side + " " + eyes, 4);
                CHECK.is("eyes of " + side, x.tip(side, 6), eyes);
                CHECK.is("without", x.tip(1 - side, 6), 0);
            }
            faulty("wide 4;eyes " + side + " 10", 14, 1);
            faulty("wide 4;eyes " + side + " -1", 14, 0);
            faulty("wide 4;eyes " + side, 13, 0);
            faulty("wide 4;eyes " + side + " 1 1", 16, 0);
            HalfBridge x = stands("wide 4;eyes " + side + " 9;eyes " + (1 - side) + " 3;eyes " + side + " 0", 4);
            CHECK.is("the last told", x.tip(side, 6), 0);
            CHECK.is("the other's", x.tip(1 - side, 6), 3);
        }
        faulty("wide 4;eyes 2 1", 12, 1);
        faulty("wide 4;eyes", 11, 0);
    }

    private static void step() {
        CHECK.sentence("step NUMBER (1 to 20; once at most, 1 without)");
        for (int step : new int[] {1, 2, 19, 20}) {
            HalfBridge x = stands("wide 9;step " + step, 9);
            CHECK.is("step", x.count(5), step);
            CHECK.is("build by step", x.build(0, step, -step), true);
            CHECK.is("build by more", x.build(0, step + 1, 0), false);
        }
        HalfBridge x = stands("wide 9;inches 3", 9);
        CHECK.is("without", x.count(5), 1);
        CHECK.is("build by 1", x.build(0, -1, 1), true);
        CHECK.is("build by 2", x.build(0, 0, 2), false);
        faulty("wide 4;step 0", 12, 1);
        faulty("wide 4;step 21", 12, 1);
        faulty("wide 4;step 1;step 2", 14, 4);
        faulty("wide 4;step", 11, 0);
        faulty("wide 4;step 1 1", 14, 0);
    }

    private static void inches() {
        CHECK.sentence("inches NUMBER (0 to 99; once at most, 0 without)");
        for (int inches : new int[] {0, 1, 98, 99}) {
            HalfBridge x = stands("wide 2;bank 0 " + inches + " 0;inches " + inches, 2);
            CHECK.is("inches", x.count(6), inches);
            x.spring(-1, -1, 1);
            CHECK.is("in time by " + inches, x.miss(3), 1);
            x.pull(1);
            x.build(1, -1, 0);
            CHECK.is("not by one more", x.miss(3), 0);
        }
        CHECK.is("without", stands("wide 2;step 3", 2).count(6), 0);
        faulty("wide 4;inches 100", 14, 1);
        faulty("wide 4;inches -1", 14, 0);
        faulty("wide 4;inches 0;inches 1", 16, 4);
        faulty("wide 4;inches", 13, 0);
        faulty("wide 4;inches 1 1", 16, 0);
    }

    private static void flood() {
        CHECK.sentence("flood NUMBER NUMBER (a day 0 to 399, YARDS 1 to 9; 8 at most).");
        for (int floods = 0; floods <= 8; floods++) {
            CHECK.is("floods", stands("wide 4" + ";flood 7 2".repeat(floods), 4).count(4), floods);
        }
        faulty("wide 4" + ";flood 7 2".repeat(9), 87, 4);
        faulty("wide 4;flood 400 1", 13, 1);
        faulty("wide 4;flood -1 1", 13, 0);
        faulty("wide 4;flood 1 0", 15, 1);
        faulty("wide 4;flood 1 10", 15, 1);
        faulty("wide 4;flood 1", 14, 0);
        faulty("wide 4;flood 1 1 1", 17, 0);
        for (int yards : new int[] {1, 2, 8, 9}) {
            HalfBridge x = stands("wide 30;flood 1 " + yards, 30);
            for (int i = 0; i < 10; i++) {
                x.build(0, 0, 0);
            }
            x.spring(-1, -1, 1);
            CHECK.is("YARDS ahead of the flood", x.tip(0, 0), 11);
            x.spring(-1, -1, 1);
            CHECK.is("YARDS behind a flood of " + yards, x.tip(0, 0), 12 - yards);
            CHECK.is("of the other", x.tip(1, 0), Math.max(0, 2 - yards));
        }
        HalfBridge x = stands("wide 30" + ";flood 0 1".repeat(8), 30);
        for (int i = 0; i < 10; i++) {
            x.build(1, 0, 0);
        }
        x.spring(-1, -1, 1);
        CHECK.is("eight floods of a day", x.tip(1, 0), 3);
    }

    private static void floodDays() {
        for (int day : new int[] {0, 1, 398, 399}) {
            HalfBridge x = stands("wide 40;flood " + day + " 9", 40);
            Told.rule(x, "wait 1=1");
            x.build(0, 0, 0);
            if (day > 0) {
                x.spring(0, 0, Math.min(day, 200));
                CHECK.is("day", x.count(2), Math.min(day, 200));
            }
            if (day > 200) {
                x.spring(0, 0, day - 200);
            }
            CHECK.is("it stands till day " + day, x.tip(0, 0), 1);
            x.spring(0, 0, 1);
            CHECK.is("the flood of day " + day, x.tip(0, 0), 0);
            x.build(0, 0, 0);
            x.spring(0, 0, 1);
            CHECK.is("none the day behind it", x.tip(0, 0), 1);
        }
    }

    private static void digits() {
        CHECK.sentence("1 a NUMBER of more digits, or not as told;");
        stands("wide 00002", 2);
        stands("wide 00040", 40);
        faulty("wide 000002", 5, 1);
        faulty("wide 0000000000000000000000000000004", 5, 1);
        faulty("wide 00041", 5, 1);
        faulty("wide 99999", 5, 1);
        faulty("wide 100000", 5, 1);
        faulty("wide 4294967300", 5, 1);
        faulty("wide 4;bank 0 00099 000099", 20, 1);
        faulty("wide 4;bank 000001 1 1", 12, 1);
        faulty("wide 4;flood 65536 1", 13, 1);
        faulty("wide 4;step 257", 12, 1);
    }

    private static void blanks() {
        CHECK.sentence("Blanks (32) stand between as one likes.");
        HalfBridge x = stands("wide4;bank1 2 3;eyes0 4;step5;inches6;flood7 8", 4);
        CHECK.is("line", x.tip(1, 1), 2);
        CHECK.is("height", x.tip(1, 2), 3);
        CHECK.is("eyes", x.tip(0, 6), 4);
        CHECK.is("step", x.count(5), 5);
        CHECK.is("inches", x.count(6), 6);
        stands("   wide   4   ;   bank   1   2   3   ;   step   5   ", 4);
        faulty("wi de 4", 0, 0);
        stands("wide 4 ", 4);
        faulty("wide 4 0", 7, 0);
        faulty("wide 4;bank 0 11", 16, 0);
        for (int b : new int[] {0, 9, 10, 13, 31, 33, 160, 255}) {
            faulty("wide" + (char) b + "4", 4, 0);
        }
    }

    private static void firstFault() {
        CHECK.sentence("FAULTS, the first along the text, 1 + 8 * its place and:");
        faulty("wide 1;bank 2 1 1", 5, 1);
        faulty("wide 4;bank 2 100 100", 12, 1);
        faulty("wide 4;bank 0 100 100", 14, 1);
        faulty("wide 4;bank 0 1 100;x", 16, 1);
        faulty("wide 4;step 3;x;step 1;wide 1", 14, 0);
        faulty("x wide 1", 0, 0);
        CHECK.sentence("Of one place the least.");
        faulty("999999", 0, 0);
        faulty("wide 4;999999", 7, 0);
        faulty("wide 4 999999", 7, 0);
        faulty("wide 4" + ";step 3;eyes 0 0" + ";eyes 0 0".repeat(21) + ";999999", 212, 0);
    }

    private static void outOfPlace() {
        CHECK.sentence("0 a byte or WORD that can't stand there, or the end (behind the last byte);");
        faulty("wide", 4, 0);
        faulty("wide ", 5, 0);
        faulty("wide 4;", 7, 0);
        faulty("wide 4;  ", 9, 0);
        faulty("   ", 3, 0);
        faulty("wide 4" + " ".repeat(393) + ";", 400, 0);
        for (String word : new String[] {"wid", "wides", "widewide", "turn", "rise", "wait", "pull", "if", "line", "a", "z"}) {
            faulty(word + " 4", 0, 0);
            faulty("wide " + word, 5, 0);
            faulty("wide 4 " + word + " 1", 7, 0);
            faulty("wide 4;" + word + " 1", 7, 0);
        }
        faulty("wide wide", 5, 0);
        faulty("wide 4 step 1", 7, 0);
        faulty("WIDE 4", 0, 0);
        faulty("wide 4;Step 1", 7, 0);
        faulty("wide 4;stEp 1", 7, 0);
        faulty("wide 4;bank 0 1 ;", 16, 0);
    }

    /** Each byte ahead of a text, behind its word and behind its number. */
    private static void everyByte() {
        for (int b = 0; b < 256; b++) {
            String sign = String.valueOf((char) b);
            HalfBridge x = new HalfBridge();
            CHECK.is("byte " + b + " ahead", Told.river(x, sign + "wide 4"), b == ' ' ? 4 : -3);
            boolean isDigit = b >= '0' && b <= '9';
            boolean isLetter = b >= 'a' && b <= 'z';
            int behindWord = b == ' ' ? 4 : isLetter ? -3 : !isDigit ? -2 - (1 + 8 * 4) : b > '3' ? -2 - (1 + 8 * 4 + 1)
                    : 10 * (b - '0') + 4;
            CHECK.is("byte " + b + " behind the word", Told.river(x, "wide" + sign + "4"), behindWord);
            int behindNumber = b == ' ' ? 3 : b == ';' ? -2 - (1 + 8 * 7) : isDigit ? 30 + b - '0' : -2 - (1 + 8 * 6);
            CHECK.is("byte " + b + " behind the number", Told.river(x, "wide 3" + sign), behindNumber);
        }
    }

    private static void inPlace() {
        CHECK.sentence("The TAPE, which is empty then, is the RIVER in place of the one there was (no YARDS, ERRORS 0, day 0,"
                + " no RUINS; x stays): how wide it is;");
        HalfBridge x = Rich.emptied();
        CHECK.is("river", Told.river(x, "wide 9"), 9);
        int[] due = {9, 9, 0, 2, 0, 1, 0, 0, 20202, 0};
        for (int what = 0; what <= 9; what++) {
            CHECK.is("count(" + what + ")", x.count(what), due[what]);
        }
        for (int i = 0; i < 14; i++) {
            CHECK.is("tip(" + i / 7 + ", " + i % 7 + ")", x.tip(i / 7, i % 7), 0);
        }
        for (int side = 0; side < 2; side++) {
            CHECK.is("no YARD", x.yard(side, 0, 0), -100000);
            for (int place = 0; place < 8; place++) {
                CHECK.is("ERROR at " + place, x.err(side, place, 0), 0);
            }
        }
        CHECK.is("no RUINS: all nine rows", x.erred(-1, -1, 1, 1, 0), 9);
        CHECK.is("the IMAGES stay", x.back(3), 1);
        CHECK.is("the RULES stay", x.spring(1, 1, 1), 2);
        CHECK.sentence("-2 - its FAULT, and all stays.");
        faulty("wide 1", 5, 1);
        faulty("wide 4;step 5;inches 7;bank 0 9 9;eyes 0 1;flood 1 1;x", 53, 0);
        CHECK.is("and none was: it stays so", Told.river(new HalfBridge(), "wide 1"), -2 - 42);
        HalfBridge y = new HalfBridge();
        Told.river(y, "wide 40;wide 40");
        CHECK.is("no RIVER", y.count(0), 0);
        CHECK.is("the TAPE is empty", y.count(9), 0);
    }
}
