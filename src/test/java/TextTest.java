/** Promises 1 to 5: a new object, the TAPE, and the two languages with all their FAULTS. */
final class TextTest {
    private static final Check CHECK = new Check("TextTest");

    public static void main(String[] args) {
        newObject();
        tape();
        highestByteFirst();
        rivers();
        riverFaults();
        riverLimits();
        riverInPlace();
        rules();
        ruleFaults();
        ruleLimits();
        sixRules();
        CHECK.close();
    }

    private static void newObject() {
        HalfBridge x = new HalfBridge();
        for (int what = 0; what <= 9; what++) {
            CHECK.is("new: count(" + what + ")", x.count(what), 0);
        }
        CHECK.is("NONE", HalfBridge.NONE, -1);
    }

    private static void tape() {
        HalfBridge x = new HalfBridge();
        CHECK.is("end(0) of nothing", x.end(0), 0);
        CHECK.is("end(1) of nothing", x.end(1), -1);
        CHECK.is("feed", x.feed(1, 2, 3, 4, 5), 20);
        CHECK.is("end(21)", x.end(21), -1);
        CHECK.is("end(-1)", x.end(-1), -1);
        CHECK.is("bytes", x.count(9), 20);
        CHECK.is("end(20)", x.end(20), 20);
        CHECK.is("end(13)", x.end(13), 13);
        CHECK.is("bytes", x.count(9), 13);
        for (int i = 1; i <= 19; i++) {
            CHECK.is("feed", x.feed(0, 0, 0, 0, 0), 13 + 20 * i);
        }
        CHECK.is("feed above 400", x.feed(0, 0, 0, 0, 0), -1);
        CHECK.is("bytes", x.count(9), 393);
        CHECK.is("end(380)", x.end(380), 380);
        CHECK.is("feed up to 400", x.feed(0, 0, 0, 0, 0), 400);
        CHECK.is("feed", x.feed(0, 0, 0, 0, 0), -1);
        CHECK.is("end(401)", x.end(401), -1);
        CHECK.is("end(400)", x.end(400), 400);
    }

    private static void highestByteFirst() {
        HalfBridge x = new HalfBridge();
        x.feed(0x77696465, 0x20313220, 0x3b737465, 0x70203720, 0x20202020);
        CHECK.is("wide 12 ;step 7", x.river(), 12);
        CHECK.is("step", x.count(5), 7);
        x.feed(0x77696465, 0x20342020, 0x20202020, 0x20202020, 0x202020ff);
        CHECK.is("a last byte of 255", x.river(), fault(19, 0));
    }

    private static int fault(int place, int kind) {
        return -2 - (1 + 8 * place + kind);
    }

    private static void river(String text, int due) {
        HalfBridge x = new HalfBridge();
        CHECK.is("river '" + text + "'", Told.river(x, text), due);
        CHECK.is("bytes behind river '" + text + "'", x.count(9), 0);
    }

    private static void rivers() {
        river("wide 2", 2);
        river("wide 40", 40);
        river("wide40", 40);
        river("  wide  00040  ", 40);
        river("wide 4;bank 0 0 0;bank 1 99 99", 4);
        river("wide 4;bank 0 0 0;bank 0 9 9;eyes 0 1;eyes 0 9;eyes 1 0", 4);
        river("wide 4;step 1", 4);
        river("wide 4;step 20;inches 0", 4);
        river("wide 4 ; inches 99 ; step 20", 4);
        river("wide 4;flood 0 1;flood 399 9;flood 0 1", 4);
    }

    private static void riverFaults() {
        river("", fault(0, 0));
        river("   ", fault(3, 0));
        river("wide", fault(4, 0));
        river("wide  ", fault(6, 0));
        river("wide 1", fault(5, 1));
        river("wide 41", fault(5, 1));
        river("wide 000040", fault(5, 1));
        river("wide 99999999999999999999", fault(5, 1));
        river("wide x", fault(5, 0));
        river("wide -4", fault(5, 0));
        river("wides 4", fault(0, 0));
        river("Wide 4", fault(0, 0));
        river("wiDe 4", fault(0, 0));
        river("turn 4", fault(0, 0));
        river("4 wide", fault(0, 0));
        river("123456", fault(0, 0));
        river("wide\0004", fault(4, 0));
        river("wide 4 4", fault(7, 0));
        river("wide 4 123456", fault(7, 0));
        river("wide 4;", fault(7, 0));
        river("wide 4; ", fault(8, 0));
        river("wide 4;;", fault(7, 0));
        river(";wide 4", fault(0, 0));
        river("bank 0 1 1", fault(0, 4));
        river("  bank 0 1 1;wide 4", fault(2, 4));
        river("bank x", fault(0, 4));
        river("wide 4;wide 4", fault(7, 4));
        river("wide 4;bank 2 1 1", fault(12, 1));
        river("wide 4;bank 0 100 1", fault(14, 1));
        river("wide 4;bank 0 1 100", fault(16, 1));
        river("wide 4;bank 0 1", fault(15, 0));
        river("wide 4;bank 0 1 ;", fault(16, 0));
        river("wide 4;bank 0 1 1 1", fault(18, 0));
        river("wide 4;eyes 0 10", fault(14, 1));
        river("wide 4;eyes 2 1", fault(12, 1));
        river("wide 4;eyes 0", fault(13, 0));
        river("wide 4;step 0", fault(12, 1));
        river("wide 4;step 21", fault(12, 1));
        river("wide 4;step 1;step 1", fault(14, 4));
        river("wide 4;step 1;step x", fault(14, 4));
        river("wide 4;inches 100", fault(14, 1));
        river("wide 4;inches 0;inches 0", fault(16, 4));
        river("wide 4;flood 400 1", fault(13, 1));
        river("wide 4;flood 1 0", fault(15, 1));
        river("wide 4;flood 1 10", fault(15, 1));
        river("wide 4;flood 1", fault(14, 0));
        river("wide 4;floods 1 1", fault(7, 0));
        river("wide 1;bank 2 1 1", fault(5, 1));
    }

    private static void riverLimits() {
        String floods = "wide 4" + ";flood 1 1".repeat(8);
        river(floods, 4);
        river(floods + ";flood 1 1", fault(87, 4));
        river(floods + ";flood x", fault(87, 4));
        String clauses = "wide 4" + ";eyes 0 1".repeat(23);
        river(clauses, 4);
        river(clauses + ";eyes 0 1", fault(214, 4));
        river(clauses + ";  eyes 0 1", fault(216, 4));
        river(clauses + ";eye", fault(214, 0));
        river(clauses + ";", fault(214, 0));
        river("wide 4" + " ".repeat(394), 4);
        river("wide 4" + " ".repeat(393) + ";", fault(400, 0));
    }

    private static void riverInPlace() {
        HalfBridge x = new HalfBridge();
        Told.river(x, "wide 4;bank 0 3 2;step 2;inches 5;flood 7 1");
        Told.rule(x, "turn 1");
        x.seed(77);
        x.build(0, 1, 1);
        x.err(1, 2, 3);
        x.ruin(0, 1, 2);
        x.spring(0, 0, 1);
        CHECK.is("a faulty river", Told.river(x, "wide 4;bank"), fault(11, 0));
        int[] before = {4, 1, 1, 1, 1, 2, 5, 1, 77, 0};
        for (int what = 0; what <= 9; what++) {
            CHECK.is("all stays: count(" + what + ")", x.count(what), before[what]);
        }
        CHECK.is("the YARDS stay", x.yard(0, 0, 0), 4);
        CHECK.is("the ERRORS stay", x.err(1, 2, 3), 3);
        CHECK.is("a new river", Told.river(x, "wide 9"), 9);
        int[] after = {9, 9, 0, 1, 0, 1, 0, 0, 77, 0};
        for (int what = 0; what <= 9; what++) {
            CHECK.is("in its place: count(" + what + ")", x.count(what), after[what]);
        }
        CHECK.is("no YARDS", x.tip(0, 0), 0);
        CHECK.is("banks without", x.tip(0, 1) + x.tip(0, 2), 0);
        CHECK.is("ERRORS 0", x.err(1, 2, 3), 0);
    }

    private static void rule(String text, int due) {
        HalfBridge x = new HalfBridge();
        CHECK.is("rule '" + text + "'", Told.rule(x, text), due);
        CHECK.is("bytes behind rule '" + text + "'", x.count(9), 0);
        CHECK.is("rules behind rule '" + text + "'", x.count(3), due == 0 ? 1 : 0);
    }

    private static void rules() {
        rule("turn 1", 0);
        rule("turn 99999;rise 00000", 0);
        rule("  turn  other-line  if[gap>=1]", 0);
        rule("turn 1if gap=1", 0);
        rule("turn side+line-height*other/tall;rise gap + day - yards * last", 0);
        rule("wait 1<2;pull 1<=2;wait 1=2;pull 1>=2;wait 1>2", 0);
        rule("wait not[not gap=1and day=2or[yards=3]]", 0);
        rule("wait 1 < 2 and [ 1 < 2 or not 3 > 4 ] or 5 = 6", 0);
    }

    private static void ruleFaults() {
        rule("", fault(0, 0));
        rule("turn", fault(4, 0));
        rule("turn ;", fault(5, 0));
        rule("turn 1 if", fault(9, 0));
        rule("turn 1 if gap", fault(13, 0));
        rule("turn 1 iff gap = 1", fault(7, 0));
        rule("turn 1 ifgap = 1", fault(7, 0));
        rule("turn 1;", fault(7, 0));
        rule("turn 1 2", fault(7, 0));
        rule("turn 1 + + 2", fault(9, 0));
        rule("turn - 1", fault(5, 0));
        rule("turn (1)", fault(5, 0));
        rule("turn [1]", fault(5, 0));
        rule("turn turn", fault(5, 0));
        rule("turn Gap", fault(5, 0));
        rule("turn gaps", fault(5, 0));
        rule("turn 1 = 1", fault(7, 0));
        rule("turn 1 and 1", fault(7, 0));
        rule("turn 123456", fault(5, 1));
        rule("turn 1 + 000001 + x", fault(9, 1));
        rule("rise x", fault(5, 0));
        rule("wide 4", fault(0, 0));
        rule("wait", fault(4, 0));
        rule("wait 1", fault(6, 0));
        rule("wait 1 <", fault(8, 0));
        rule("wait 1 < = 2", fault(9, 0));
        rule("wait 1 =< 2", fault(8, 0));
        rule("wait 1 == 2", fault(8, 0));
        rule("wait 1 < 2 < 3", fault(11, 0));
        rule("wait 1 < 2 and", fault(14, 0));
        rule("wait or 1 < 2", fault(5, 0));
        rule("wait gap = 1]", fault(12, 0));
        rule("wait [ gap = 1", fault(14, 0));
        rule("wait [ gap = 1;turn 1", fault(14, 0));
        rule("wait [ ]", fault(7, 0));
        rule("wait [ 1 ] < 2", fault(9, 0));
        rule("wait not", fault(8, 0));
        rule("wait nots 1 = 1", fault(5, 0));
        rule("wait gap = 1 if gap = 2", fault(13, 0));
        rule("pulls 1", fault(0, 0));
        rule("pull 1 = 1 ! ", fault(11, 0));
        rule("pull \0", fault(5, 0));
        rule("pull 1 \u00b3 1", fault(7, 0));
    }

    private static void ruleLimits() {
        rule("wait " + "not ".repeat(10) + "1=1", 0);
        rule("wait " + "not ".repeat(11) + "1=1", fault(45, 2));
        rule("wait " + "[".repeat(10) + "1=1" + "]".repeat(10), 0);
        rule("wait " + "[".repeat(11) + "1=1" + "]".repeat(11), fault(15, 2));
        rule("wait " + "not[".repeat(5) + "1=1" + "]".repeat(5), 0);
        rule("wait " + "not[".repeat(5) + "not 1=1" + "]".repeat(5), fault(25, 2));
        rule("wait " + "not[".repeat(5) + "[ 1=1" + "]".repeat(6), fault(25, 2));
        rule("wait not not not 1=1 and not not not not not not not not not not 1=1", 0);
        String ones = "turn 1" + "+1".repeat(59);
        rule(ones, 0);
        rule(ones + "+1", fault(125, 3));
        rule(ones + "+gap", fault(125, 3));
        rule(ones + "+123456", fault(125, 1));
        rule(ones + "+gaps", fault(125, 0));
        rule(ones + ";turn 1", fault(130, 3));
        rule("turn 1" + "+1".repeat(56) + " if 1=1", 0);
        rule("turn 1" + "+1".repeat(57) + " if 1=1", fault(126, 3));
        rule("turn 1" + "+1".repeat(58) + " if 1=1", fault(127, 3));
        rule("turn 1" + "+1".repeat(58) + " if 1+1", fault(128, 3));
        rule("turn 1" + "+1".repeat(58) + " if 1;", fault(127, 0));
        rule("wait 1=1" + " or 1=1".repeat(19), 0);
        rule("wait 1=1" + " or 1=1".repeat(20), fault(145, 3));
        String clauses = "turn 1" + ";turn 1".repeat(11);
        rule(clauses, 0);
        rule(clauses + ";turn 1", fault(84, 4));
        rule(clauses + "; wait", fault(85, 4));
        rule(clauses + ";waits", fault(84, 0));
        rule(clauses + ";", fault(84, 0));
    }

    private static void sixRules() {
        HalfBridge x = new HalfBridge();
        for (int i = 0; i < 6; i++) {
            CHECK.is("rule " + i, Told.rule(x, "turn " + i), i);
            if (i < 5) {
                CHECK.is("a faulty rule", Told.rule(x, "turn"), fault(4, 0));
            }
        }
        Told.tape(x, "turn 1");
        CHECK.is("a seventh rule", x.rule(), -1);
        CHECK.is("its bytes stay", x.count(9), 6);
        CHECK.is("rules", x.count(3), 6);
        Told.river(x, "wide 4");
        CHECK.is("rules stay with a new river", x.count(3), 6);
    }
}
