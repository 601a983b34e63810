/** RULES as texts (part I of the document, promise 5), at each bound that it tells of them. */
final class RuleBoundTest {
    private static final Check CHECK = new Check("RuleBoundTest");
    private static final String UNTOUCHED = Portrait.of(Rich.emptied());
    private static final String[] WORDS = {"side", "line", "height", "other", "tall", "gap", "day", "yards", "last"};

    public static void main(String[] args) {
        sixRules();
        bytes();
        clauses();
        clauseKinds();
        tests();
        sums();
        numbers();
        words();
        blanks();
        deep();
        items();
        itemFaults();
        outOfPlace();
        notAsTold();
        firstFault();
        everyByte();
        CHECK.close();
    }

    private static void stands(String text) {
        HalfBridge x = Rich.emptied();
        CHECK.is("rule '" + text + "'", Told.rule(x, text), 2);
        CHECK.is("RULES behind '" + text + "'", x.count(3), 3);
        CHECK.is("bytes behind '" + text + "'", x.count(9), 0);
    }

    /** A FAULT is told, and nothing else happens but that the TAPE is empty. */
    private static void faulty(String text, int place, int kind) {
        HalfBridge x = Rich.emptied();
        CHECK.is("rule '" + text + "'", Told.rule(x, text), -2 - (1 + 8 * place + kind));
        CHECK.same("nothing else behind '" + text + "'", Portrait.of(x), UNTOUCHED);
    }

    private static void sixRules() {
        CHECK.sentence("The TAPE, which is empty then, is a RULE: its number; -2 - its FAULT;");
        HalfBridge x = Told.at(CHECK, "wide 9;step 9");
        for (int rule = 0; rule < 6; rule++) {
            CHECK.is("a faulty one", Told.rule(x, "turn"), -2 - 33);
            CHECK.is("no RULE " + rule, x.ahead(rule, -1, 1, 3), -1);
            CHECK.is("its number", Told.rule(x, "turn " + (rule + 1)), rule);
            CHECK.is("the TAPE is empty", x.count(9), 0);
            CHECK.is("RULES", x.count(3), rule + 1);
        }
        for (int rule = 0; rule < 6; rule++) {
            CHECK.is("RULE " + rule + " stays", x.ahead(rule, -1, 1, 3), rule + 1);
        }
        CHECK.is("no RULE 6", x.ahead(6, -1, 1, 3), -1);
        x = Told.at(CHECK, "wide 9;step 9");
        for (int rule = 0; rule < 6; rule++) {
            CHECK.is("one of 60 VALUES", Told.rule(x, "turn " + (rule + 1) + "+1-1".repeat(28) + "+1*1-1"), rule);
        }
        for (int rule = 0; rule < 6; rule++) {
            CHECK.is("RULE " + rule + " of 60 VALUES stays", x.ahead(rule, -1, 1, 3), rule + 1);
        }
        CHECK.sentence("NONE, and nothing happens: there are 6.");
        new Rich(CHECK, Rich::sixRules).refuses("a seventh", HalfBridge::rule, -1);
        new Rich(CHECK, () -> {
            HalfBridge six = Rich.sixRules();
            six.end(0);
            return six;
        }).refuses("a seventh of no byte", HalfBridge::rule, -1);
    }

    private static void bytes() {
        CHECK.sentence("RULES 0 to 5: texts likewise, 12 CLAUSES at most:");
        HalfBridge x = Told.at(CHECK, "wide 9;step 9", "turn 1" + " ".repeat(387) + ";rise 7");
        CHECK.is("the 400th byte is of it", x.ahead(0, -1, 1, 3), 8);
        faulty("turn 1" + " ".repeat(393) + "+", 400, 0);
        faulty("turn 1" + " ".repeat(393) + ";", 400, 0);
        for (String sign : new String[] {"<", "=", ">", "<=", ">="}) {
            faulty("wait 1" + " ".repeat(394 - sign.length()) + sign, 400, 0);
        }
        faulty("wait " + " ".repeat(394) + "[", 400, 0);
        faulty("wait " + " ".repeat(392) + "not", 400, 0);
        faulty("wait " + " ".repeat(392) + "gap", 400, 0);
        faulty("wait " + " ".repeat(390) + "12345", 400, 0);
        faulty("turn 1" + " ".repeat(392) + ";;", 399, 0);
    }

    private static void clauses() {
        faulty("", 0, 0);
        faulty("   ", 3, 0);
        for (String clause : new String[] {"turn 1", "rise 1", "wait 1=1", "pull 1=1"}) {
            stands(clause);
            stands(clause + (";" + clause).repeat(10));
            stands(clause + (";" + clause).repeat(11));
            for (String more : new String[] {"turn 1", "rise 1", "wait 1=1", "pull 1=1", "turn", "wait x"}) {
                faulty(clause + (";" + clause).repeat(11) + ";" + more, 12 * clause.length() + 12, 4);
            }
            faulty(clause + (";" + clause).repeat(11) + ";", 12 * clause.length() + 12, 0);
            faulty(clause + (";" + clause).repeat(11) + ";wide 4", 12 * clause.length() + 12, 0);
        }
        HalfBridge x = Told.at(CHECK, "wide 9;step 9", "turn 1 if 1=2" + ";turn 2 if 1=2".repeat(10) + ";turn 7");
        CHECK.is("the twelfth tells, too", x.ahead(0, -1, 1, 3), 7);
    }

    private static void clauseKinds() {
        CHECK.sentence("turn SUM [ if TEST ] | rise SUM [ if TEST ] | wait TEST | pull TEST.");
        for (String kind : new String[] {"turn", "rise"}) {
            stands(kind + " 1");
            stands(kind + " 1 if 1=1");
            faulty(kind, 4, 0);
            faulty(kind + " if 1=1", 5, 0);
            faulty(kind + " 1 if", 9, 0);
            faulty(kind + " 1=1", 6, 0);
            faulty(kind + " 1 if 1", 11, 0);
            faulty(kind + " 1 if 1=1 if 1=1", 14, 0);
        }
        for (String kind : new String[] {"wait", "pull"}) {
            stands(kind + " 1=1");
            faulty(kind, 4, 0);
            faulty(kind + " 1", 6, 0);
            faulty(kind + " if 1=1", 5, 0);
            faulty(kind + " 1=1 if 1=1", 9, 0);
        }
    }

    /** By waiting or not the left tells whether a TEST holds. */
    private static void holds(String test, boolean due) {
        HalfBridge x = Told.at(CHECK, "wide 20", "wait " + test, "wait 1=1");
        x.build(0, -1, 0);
        x.spring(0, 1, 1);
        CHECK.is(test, x.tip(0, 0) == 1, due);
    }

    private static void tests() {
        CHECK.sentence("TEST: PART { or PART }. PART: FACT { and FACT }.");
        String[] facts = {"1=2", "1=1"};
        for (int i = 0; i < 8; i++) {
            boolean a = (i & 4) > 0, b = (i & 2) > 0, c = (i & 1) > 0;
            String fa = facts[i >> 2], fb = facts[i >> 1 & 1], fc = facts[i & 1];
            holds(fa + " or " + fb + " and " + fc, a || b && c);
            holds(fa + " and " + fb + " or " + fc, a && b || c);
            holds(fa + " or " + fb + " or " + fc, a || b || c);
            holds(fa + " and " + fb + " and " + fc, a && b && c);
            holds("[ " + fa + " or " + fb + " ] and " + fc, (a || b) && c);
            holds(fa + " and [ " + fb + " or " + fc + " ]", a && (b || c));
            holds("not " + fa + " and " + fb, !a && b);
            holds("not " + fa + " or " + fb, !a || b);
            holds("not [ " + fa + " and " + fb + " ]", !(a && b));
            holds("not not " + fa, a);
        }
        for (String text : new String[] {"wait or 1=1", "wait and 1=1", "wait ; 1=1"}) {
            faulty(text, 5, 0);
        }
        faulty("wait 1=1 or", 11, 0);
        faulty("wait 1=1 and", 12, 0);
        faulty("wait 1=1 or and 1=1", 12, 0);
        faulty("wait 1=1 1=1", 9, 0);
        CHECK.sentence("FACT: not FACT | [ TEST ] (these brackets are signs) | SUM SIGN SUM, SIGN one of < <= = >= >.");
        String[] signs = {"<", "<=", "=", ">=", ">"};
        for (int a = 1; a <= 3; a++) {
            boolean[] due = {a < 2, a <= 2, a == 2, a >= 2, a > 2};
            for (int i = 0; i < 5; i++) {
                holds(a + signs[i] + "2", due[i]);
                holds("1 + " + a + " " + signs[i] + " 3", due[i]);
                holds("not " + a + signs[i] + "2", !due[i]);
                holds("1=1 and " + a + signs[i] + "2", due[i]);
                holds("1=2 or " + a + signs[i] + "2", due[i]);
                holds("not [" + a + signs[i] + "2 and 1=1]", !due[i]);
            }
        }
        for (String sign : new String[] {"==", "=<", "=>", "<>", "><", "<<", ">>"}) {
            faulty("wait 1" + sign + "1", 7, 0);
        }
        faulty("wait 1<=>1", 8, 0);
        faulty("wait 1 < = 1", 9, 0);
        faulty("wait 1 <==1", 9, 0);
        faulty("wait 1=1=1", 8, 0);
        faulty("wait [1=1", 9, 0);
        faulty("wait 1=1]", 8, 0);
        faulty("wait []", 6, 0);
        faulty("wait [1]=1", 7, 0);
        faulty("wait not", 8, 0);
        faulty("wait not 1", 10, 0);
        faulty("wait (1=1)", 5, 0);
    }

    private static void sums() {
        CHECK.sentence("SUM: TERM { (+ or -) TERM }. TERM: VALUE { (* or /) VALUE }.");
        holds("2+3*4=14", true);
        holds("2*3+4=10", true);
        holds("20-3-4=13", true);
        holds("20-3+4=21", true);
        holds("20-3*4-1=7", true);
        holds("100/5/2=10", true);
        holds("7/2*4=12", true);
        holds("4*7/2=14", true);
        for (String sign : new String[] {"+", "-", "*", "/"}) {
            faulty("turn " + sign + "1", 5, 0);
            faulty("turn 1" + sign, 7, 0);
            faulty("turn 1" + sign + sign + "1", 7, 0);
            faulty("turn 1" + sign + ";", 7, 0);
        }
        CHECK.sentence("/ is towards 0, 0 by 0;");
        // line is -1 here.
        holds("7/2=3", true);
        holds("line*7/2=0-3", true);
        holds("7/line/2=0-3", true);
        holds("line*7/line/2=3", true);
        holds("line/2=0", true);
        holds("1/2=0", true);
        holds("1/0=0", true);
        holds("99999/0=0", true);
        holds("line/0=0", true);
        holds("0/0=0", true);
        holds("5+1/0*9=5", true);
        CHECK.sentence("all goes round in 64 bits.");
        String half = "32768*32768*32768*32768";
        holds(half + "*4>0", true);
        holds(half + "*8<0", true);
        holds(half + "*8-1>0", true);
        holds(half + "*8-1+1<0", true);
        holds(half + "*16=0", true);
        holds(half + "*8/line<0", true);
        holds(half + "*8*line=" + half + "*8", true);
        holds("line*" + half + "*8-1>0", true);
        holds(half + "*8=2*" + half + "*4", true);
        holds("65536*65536=0", false);
        holds("65536*65536>65535", true);
        holds("99999*99999*99999*99999>0", true);
        holds("99999*99999*99999*99999/10000/10000/10000/10000<1000", true);
    }

    private static void numbers() {
        CHECK.sentence("VALUE: NUMBER (1 to 5 digits, as far as digits go on) | WORD.");
        for (int digits = 1; digits <= 7; digits++) {
            String number = "99999999".substring(0, digits);
            String zeros = "0000000".substring(0, digits - 1) + "7";
            if (digits <= 5) {
                holds(number + "+1=1" + "0*10".repeat(digits - 1) + "0", digits == 1);
                holds(number + "=" + Integer.parseInt(number) / 3 + "*3", true);
                holds(zeros + "=7", true);
            } else {
                faulty("turn " + number, 5, 1);
                faulty("turn " + zeros, 5, 1);
                faulty("wait 1=1+" + number, 9, 1);
            }
        }
        holds("99999+1=10000*10", true);
        holds("12=3*4", true);
        faulty("wait 1 2=3*4", 7, 0);
        faulty("turn 1 2", 7, 0);
        faulty("turn -1", 5, 0);
        faulty("turn 1.5", 6, 0);
    }

    private static void words() {
        CHECK.sentence("WORDS (small letters, as far as these go on) of a SIDE: side, line, height (of its TIP), other, tall"
                + " (LINE and HEIGHT of the other TIP, as SEEN), gap, day, yards (how many it has), last (TURN of its last YARD;"
                + " 0 without).");
        for (String word : WORDS) {
            stands("turn " + word);
            stands("wait 1=" + word);
            faulty("turn " + word + "s", 5, 0);
            faulty("turn " + word + word, 5, 0);
            faulty("turn " + word.substring(1), 5, 0);
            faulty("turn " + word.substring(0, word.length() - 1), 5, 0);
            faulty("turn " + word.toUpperCase(), 5, 0);
            faulty("turn " + word + "S", 5 + word.length(), 0);
            faulty("turn " + word + "1", 5 + word.length(), 0);
            faulty("turn 1" + word, 6, 0);
            faulty(word + " 1", 0, 0);
        }
        stands("wait not1=1and[gap=2]or not[gap=3]");
        faulty("wait notgap=1", 5, 0);
        faulty("wait gap=1 andgap=2", 11, 0);
        faulty("wait gap=1 orgap=2", 11, 0);
        faulty("turn 1 ifgap=2", 7, 0);
        faulty("turnother", 0, 0);
        wordsOfASide();
    }

    /** The left waits by a TEST of all WORDS, the right by another. */
    private static void seenByBoth(String when, String left, String right, int gap) {
        HalfBridge x = Told.at(CHECK, "wide 20;bank 0 9 3;bank 1 2 2;eyes 0 9;eyes 1 9;step 3", "wait " + left, "wait " + right);
        x.err(0, 0, -2);
        x.err(1, 0, -2);
        x.build(0, 1, 1);
        x.build(0, -3, 0);
        x.build(1, 0, -1);
        x.build(1, 1, -1);
        x.spring(0, 1, 1);
        CHECK.is(when, x.count(1), gap);
        x.spring(0, 1, 1);
        CHECK.is(when + ", but on day 1 no more", x.count(1), gap - 2);
    }

    private static void wordsOfASide() {
        // -2 * 9 * 16 / 90 is -3: the left sees 3 - 3 and 0 + 3, the right 7 - 3 and 4 + 3.
        String left = "side=0 and line=7 and height=4 and other=0 and tall=3 and gap=16 and day=0 and yards=2 and last=0-3";
        String right = "side=1 and line=3 and height=0 and other=4 and tall=7 and gap=16 and day=0 and yards=2 and last=1";
        seenByBoth("all are so: both wait", left, right, 16);
        for (String word : WORDS) {
            seenByBoth(word + " is not so: the left builds", left.replace(word + "=", word + "=1+"), right, 15);
            seenByBoth(word + " is not so: the right builds", left, right.replace(word + "=", word + "=1+"), 15);
        }
        HalfBridge x = Told.at(CHECK, "wide 20;bank 0 9 3", "wait last=0 and yards=0 and line=9 and height=3");
        x.spring(0, -1, 1);
        CHECK.is("0 without", x.tip(0, 0), 0);
        x.build(0, 1, 0);
        x.spring(0, -1, 1);
        CHECK.is("1 with one: it builds", x.tip(0, 0), 2);
    }

    private static void blanks() {
        CHECK.sentence("Blanks (32) stand between as one likes.");
        stands("turn1");
        stands("turn other-line*2/3+4if[gap<=1and not[day>2or yards=3]];wait1=1");
        stands("  turn  other  -  line  if  [  gap  <=  1  and  not  [  day  >  2  ]  ]  ;  wait  1  =  1  ");
        faulty("tu rn 1", 0, 0);
        faulty("turn g ap", 5, 0);
        faulty("turn gap last", 9, 0);
        for (int b : new int[] {0, 9, 10, 13, 31, 33, 160, 255}) {
            faulty("turn" + (char) b + "1", 4, 0);
            faulty("turn 1" + (char) b, 6, 0);
        }
    }

    private static void deep() {
        CHECK.sentence("[ and not lie within one another 10 deep at most;");
        for (int deep = 9; deep <= 10; deep++) {
            stands("wait " + "not ".repeat(deep) + "1=1");
            stands("wait " + "[".repeat(deep) + "1=1" + "]".repeat(deep));
        }
        stands("wait " + "[not ".repeat(5) + "1=1" + "]".repeat(5));
        stands("wait " + "not[".repeat(5) + "1=1" + "]".repeat(5) + " and " + "not[".repeat(5) + "1=1" + "]".repeat(5));
        stands("turn 1 if " + "not ".repeat(10) + "1=1 and " + "not ".repeat(10) + "1=1 or " + "not ".repeat(10) + "1=1");
        stands("wait [" + "not ".repeat(9) + "1=1 or " + "[".repeat(9) + "1=1" + "]".repeat(9) + " and not 1=1]");
        stands("wait " + "[".repeat(10) + "1=1" + "]".repeat(10) + ";pull " + "[".repeat(10) + "1=1" + "]".repeat(10));
        holds("not ".repeat(10) + "1=1", true);
        holds("not ".repeat(9) + "1=1", false);
        holds("[not ".repeat(5) + "1=1" + "]".repeat(5), false);
        CHECK.sentence("2 too deep (at the sign that opens, or the word not);");
        faulty("wait " + "not ".repeat(11) + "1=1", 45, 2);
        faulty("wait " + "not ".repeat(12) + "x", 45, 2);
        faulty("wait " + "not ".repeat(10) + "[1=1]", 45, 2);
        faulty("wait " + "[".repeat(11) + "1=1" + "]".repeat(11), 15, 2);
        faulty("wait " + "[".repeat(10) + " not 1=1" + "]".repeat(10), 16, 2);
        faulty("wait " + "[".repeat(10) + "1=1 and [1=1]" + "]".repeat(10), 23, 2);
        faulty("wait " + "[".repeat(10) + "1=1 or not 1=1" + "]".repeat(10), 22, 2);
        faulty("turn 1 if " + "not[".repeat(5) + "not 1=1" + "]".repeat(5), 30, 2);
        faulty("wait " + "not[".repeat(5) + "[1=1]" + "]".repeat(5), 25, 2);
        faulty("wait [" + "not ".repeat(9) + "1=1 or " + "[".repeat(9) + "not 1=1" + "]".repeat(10), 58, 2);
    }

    private static void items() {
        CHECK.sentence("at most 60 VALUES and FACTS made of a SIGN, together.");
        stands("turn 1" + "+1".repeat(58));
        stands("turn 1" + "+1".repeat(59));
        faulty("turn 1" + "+1".repeat(60), 125, 3);
        stands("turn gap" + "*day".repeat(59));
        faulty("turn gap" + "*day".repeat(60), 245, 3);
        stands("wait 1=1" + " or 1=1".repeat(18) + ";turn 1+2+3");
        faulty("wait 1=1" + " or 1=1".repeat(18) + ";turn 1+2+3+4", 146, 3);
        stands("wait 1=1" + " or 1=1".repeat(19));
        faulty("wait 1=1" + " or 1=1".repeat(20), 145, 3);
        stands("turn 1+1+1+1+1;rise 1+1+1+1+1;turn 1+1+1+1+1" + ";rise 1+1+1+1+1".repeat(9));
        faulty("turn 1+1+1+1+1;rise 1+1+1+1+1;turn 1+1+1+1+1" + ";rise 1+1+1+1+1".repeat(8) + ";rise 1+1+1+1+1+1", 180, 3);
        // not and brackets are FACTS, too, but not made of a SIGN.
        stands("wait " + "not [1=1] or ".repeat(19) + "not [1=1]");
        faulty("wait " + "not [1=1] or ".repeat(20) + "not [1=1]", 270, 3);
    }

    private static void itemFaults() {
        CHECK.sentence("3 one VALUE or FACT too many (at its first byte; of a FACT at its SIGN);");
        stands("turn 1" + "+1".repeat(56) + " if 1=1");
        // With 58 ahead: VALUE 59, FACT 60, VALUE 61.
        faulty("turn 1" + "+1".repeat(57) + " if 1 <= 12345", 129, 3);
        // With 59 ahead: VALUE 60, FACT 61.
        faulty("turn 1" + "+1".repeat(58) + " if 1 <= 12345", 128, 3);
        faulty("turn 1" + "+1".repeat(58) + " if 1 < 2", 128, 3);
        // With 60 ahead: VALUE 61.
        faulty("turn 1" + "+1".repeat(59) + " if  height = 1", 129, 3);
        faulty("turn 1" + "+1".repeat(59) + ";wait 12345 = 1", 130, 3);
        faulty("turn 1" + "+1".repeat(59) + ";wait not [ 12345 = 1 ]", 136, 3);
        CHECK.sentence("Of one place the least.");
        faulty("turn 1" + "+1".repeat(59) + "+123456", 125, 1);
        faulty("turn 1" + "+1".repeat(59) + "+gaps", 125, 0);
        faulty("turn 1" + "+1".repeat(59) + "+", 125, 0);
        faulty("turn 1" + "+1".repeat(58) + " if 1 ;", 128, 0);
        faulty("turn 1" + "+1".repeat(58) + " if 1", 127, 0);
        faulty("turn 1;turn 1;turn 1;turn 1;turn 1;turn 1;turn 1;turn 1;turn 1;turn 1;turn 1;turn 1;123456", 84, 0);
    }

    private static void outOfPlace() {
        CHECK.sentence("0 a byte or WORD that can't stand there, or the end (behind the last byte);");
        for (String word : new String[] {"if", "or", "and", "not", "turn", "rise", "wait", "pull", "wide", "bank", "x", "zz"}) {
            faulty("turn " + word, 5, 0);
            faulty("turn 1+" + word, 7, 0);
            faulty("turn 1 " + (word.equals("if") ? "iff" : word), 7, 0);
            faulty("wait 1 " + word, 7, 0);
            faulty("wait 1=" + word, 7, 0);
            faulty("wait 1=1 " + (word.equals("or") || word.equals("and") ? word + "s" : word) + " 1=1", 9, 0);
            faulty("wait [1=1 " + (word.equals("or") || word.equals("and") ? word + "s" : word) + " 1=1]", 10, 0);
        }
        for (String word : new String[] {"if", "or", "and", "not", "wide", "bank", "eyes", "step", "inches", "flood", "gap"}) {
            faulty(word + " 1", 0, 0);
            faulty("turn 1;" + word + " 1", 7, 0);
        }
        faulty("turn 1 if gap = ", 16, 0);
        faulty("turn 1 if gap =    ", 19, 0);
        faulty("wait [ gap = 1 ", 15, 0);
        faulty("wait [ gap = 1 ] and ", 21, 0);
    }

    private static void notAsTold() {
        CHECK.sentence("1 a NUMBER of more digits, or not as told;");
        faulty("turn 000001", 5, 1);
        faulty("turn 1+100000", 7, 1);
        faulty("wait 100000=1", 5, 1);
        faulty("wait 1=  1000000000000000000000", 9, 1);
        faulty("turn 1 if [100000=1]", 11, 1);
    }

    private static void firstFault() {
        CHECK.sentence("FAULTS, the first along the text, 1 + 8 * its place and:");
        faulty("turn 123456+x", 5, 1);
        faulty("turn x+123456", 5, 0);
        faulty("turn 1;x;turn 123456", 7, 0);
        faulty("wait " + "not ".repeat(11) + "123456=x", 45, 2);
        faulty("wait 123456 = 1;", 5, 1);
        faulty("turn 1" + "+1".repeat(60) + "+123456", 125, 3);
    }

    /** Each byte at each kind of place of a RULE. */
    private static void everyByte() {
        for (int b = 0; b < 256; b++) {
            String sign = String.valueOf((char) b);
            boolean isDigit = b >= '0' && b <= '9';
            boolean isLetter = b >= 'a' && b <= 'z';
            boolean counts = "+-*/".indexOf(b) >= 0;
            boolean compares = "<=>".indexOf(b) >= 0;
            byteAt(sign, "turn 1", b == ' ' ? 0 : fault(0));
            byteAt("turn " + sign, "", isDigit ? 0 : fault(b == ' ' ? 6 : 5));
            byteAt("turn 1" + sign, "", isDigit || b == ' ' ? 0 : fault(counts || b == ';' ? 7 : 6));
            byteAt("turn 1" + sign, "1", isDigit || counts ? 0 : fault(b == ' ' || b == ';' ? 7 : 6));
            byteAt("wait " + sign, "1=1", isDigit || b == ' ' ? 0 : fault(b == '[' ? 9 : 5));
            byteAt("wait 1" + sign, "1", compares ? 0 : fault(isDigit || counts ? 8 : b == ' ' ? 7 : 6));
            byteAt("wait 1<" + sign, "1", isDigit || b == ' ' || b == '=' ? 0 : fault(7));
            byteAt("wait 1=" + sign, "1", isDigit || b == ' ' ? 0 : fault(7));
            byteAt("wait 1>" + sign, "1", isDigit || b == ' ' || b == '=' ? 0 : fault(7));
            byteAt("wait [1=1" + sign, "", b == ']' ? 0 : fault(isDigit || b == ' ' || counts ? 10 : 9));
            byteAt("wait 1=1" + sign, "", isDigit || b == ' ' ? 0 : fault(counts || b == ';' ? 9 : 8));
            byteAt("wait not" + sign, "1=1", isLetter ? fault(5) : isDigit || b == ' ' ? 0 : fault(b == '[' ? 12 : 8));
        }
    }

    private static int fault(int place) {
        return -2 - (1 + 8 * place);
    }

    private static void byteAt(String ahead, String behind, int due) {
        CHECK.is("rule '" + ahead + behind + "'", Told.rule(new HalfBridge(), ahead + behind), due);
    }
}
