import java.util.Random;

/** Random runs of calls (of told seeds), each answer of the program held to the plain model's. */
final class RandomTest {
    private static final String[] VALUES =
        {"side", "line", "height", "other", "tall", "gap", "day", "yards", "last", "0", "1", "2", "3", "7", "90", "99999"};
    private static final String[] SCRAPS =
        {"wide", "bank", "eyes", "step", "inches", "flood", "turn", "rise", "wait", "pull", "if", "or", "and", "not",
            "[", "]", "<", "<=", "=", ">=", ">", "+", "-", "*", "/", ";", "123456", "x", "\u00ff", "A", "0", "40", " "};

    /** RULES by which bridges are met, missed and zigzagged. */
    private static final String[] LIVELY =
        {"turn other - line;rise tall - height", "turn other - line if side = 0", "turn other-line;pull yards>3",
            "pull yards > 1;wait yards = 1", "pull yards = 2;turn 0", "wait gap < 4 and side = 1;turn other - line",
            "pull gap < 3;turn last + 1 if last < 1;turn 0 - 1",
            "turn 2 if other > line;turn 0-2 if other < line;rise tall-height",
            "turn other - line + last;rise 1 if tall > height;rise 0 - 1 if tall < height",
            "pull line > other + 2;pull line + 2 < other;turn other / 2 - line / 2", "wait day / 2 * 2 = day;turn other - line",
            "pull not [ line - other < 5 and other - line < 5 ] and yards > 2;turn 1 - side * 2",
            "pull gap = 1;turn last * 2 + 1 if yards < 4;turn 0-3", "pull gap = yards;turn other-line;rise 1 - 2 * side"};

    private final Random random;
    private final HalfBridge program = new HalfBridge();
    private final Model model = new Model();
    private final StringBuilder log = new StringBuilder();
    private boolean agrees = true;

    private RandomTest(long seed) {
        random = new Random(seed);
    }

    public static void main(String[] args) {
        int runs = args.length > 0 ? Integer.parseInt(args[0]) : 400;
        int from = args.length > 1 ? Integer.parseInt(args[1]) : 1;
        int failed = 0;
        for (int seed = from; seed < from + runs; seed++) {
            RandomTest run = new RandomTest(seed);
            if (!run.go()) {
                failed++;
                System.out.println("RandomTest, seed " + seed + ":\n" + run.log);
            }
        }
        System.out.println("RandomTest: " + (runs - failed) + " passed, " + failed + " failed");
        if (failed > 0) {
            System.exit(1);
        }
    }

    private boolean go() {
        int calls = 40 + random.nextInt(120);
        for (int i = 0; i < calls && agrees; i++) {
            if (i == 1 || random.nextInt(25) == 0) {
                text(riverText());
                check("river()", program.river(), model.river());
                errors();
            } else if (i < 5 && i > 1 || random.nextInt(25) == 0) {
                text(ruleText());
                check("rule()", program.rule(), model.rule());
            } else {
                call();
            }
        }
        return agrees;
    }

    private void check(String call, int got, int want) {
        log.append("  ").append(call).append(" = ").append(got).append('\n');
        if (got != want) {
            agrees = false;
            log.append("    but the model answers ").append(want).append('\n');
        }
    }

    private void check(String call, boolean got, boolean want) {
        check(call, got ? 1 : 0, want ? 1 : 0);
    }

    private int upTo(int n) {
        return random.nextInt(n + 1);
    }

    private String one(String[] of) {
        return of[random.nextInt(of.length)];
    }

    private void text(String text) {
        byte[] bytes = Told.bytes(text);
        int begin = model.tape.size();
        for (int from = 0; from < bytes.length; from += 20) {
            int[] n = Told.numbers(bytes, from);
            check("feed('" + text + "', " + from + ")", program.feed(n[0], n[1], n[2], n[3], n[4]), model.feed(n));
        }
        int n = begin + bytes.length;
        check("end(" + n + ")", program.end(n), model.end(n));
    }

    private String spoiled(String text) {
        if (upTo(9) > 0 || text.isEmpty()) {
            return text;
        }
        int at = upTo(text.length() - 1);
        return switch (upTo(3)) {
            case 0 -> text.substring(0, at);
            case 1 -> text.substring(0, at) + one(SCRAPS) + text.substring(at);
            case 2 -> text.substring(0, at) + text.substring(at + 1);
            default -> text.substring(0, at) + " " + one(SCRAPS) + " " + text.substring(at);
        };
    }

    /** Often all ERRORS are told at once, as few would be seen otherwise. */
    private void errors() {
        if (upTo(1) == 0) {
            return;
        }
        for (int i = 0; i < 16; i++) {
            int error = upTo(18) - 9;
            check("err(" + i / 8 + ", " + i % 8 + ", " + error + ")", program.err(i / 8, i % 8, error),
                    model.err(i / 8, i % 8, error));
        }
    }

    /** A RIVER whose SIDES can meet, and see one another badly. */
    private String livelyRiver() {
        StringBuilder b = new StringBuilder("wide " + (upTo(4) == 0 ? 40 - upTo(15) : 3 + upTo(13)));
        b.append(";bank 0 ").append(upTo(5)).append(' ').append(upTo(3));
        b.append(";bank 1 ").append(upTo(5)).append(' ').append(upTo(3));
        b.append(";eyes 0 ").append(9 - upTo(3)).append(";eyes 1 ").append(9 - upTo(4));
        b.append(";step ").append(1 + upTo(3)).append(";inches ").append(upTo(4));
        for (int i = upTo(2); i > 0; i--) {
            b.append(";flood ").append(upTo(9)).append(' ').append(1 + upTo(2));
        }
        return b.toString();
    }

    private String riverText() {
        if (upTo(2) > 0) {
            return livelyRiver();
        }
        StringBuilder b = new StringBuilder("wide " + (upTo(3) > 0 ? 2 + upTo(9) : 2 + upTo(39)));
        int clauses = upTo(20) == 0 ? 30 : upTo(8);
        boolean step = false, inches = false;
        for (int i = 0; i < clauses; i++) {
            b.append(upTo(3) == 0 ? " ; " : ";");
            int kind = upTo(9);
            if (kind == 0 && !step) {
                step = true;
                b.append("step ").append(1 + upTo(upTo(1) == 0 ? 2 : 19));
            } else if (kind == 1 && !inches) {
                inches = true;
                b.append("inches ").append(upTo(upTo(2) > 0 ? 5 : 99));
            } else if (kind < 4) {
                b.append("eyes ").append(upTo(1)).append(' ').append(upTo(9));
            } else if (kind < 6) {
                b.append("flood ").append(upTo(upTo(3) > 0 ? 12 : 400)).append(' ').append(1 + upTo(upTo(1) == 0 ? 1 : 8));
            } else {
                int far = upTo(3) > 0 ? 9 : 99;
                b.append("bank ").append(upTo(1)).append(' ').append(upTo(far)).append(' ').append(upTo(far));
            }
        }
        return spoiled(b.toString());
    }

    private String sum() {
        StringBuilder b = new StringBuilder(one(VALUES));
        while (upTo(1) == 0) {
            b.append(upTo(1) == 0 ? " " : "").append("+--*/".charAt(upTo(4))).append(' ').append(one(VALUES));
        }
        return upTo(2) == 0 ? "other - line" : b.toString();
    }

    private String fact(int deep) {
        int kind = upTo(deep > 11 ? 20 : 7);
        if (kind == 0 && deep < 12) {
            return "not " + fact(deep + 1);
        }
        if (kind == 1 && deep < 12) {
            return "[" + test(deep + 1) + " ]";
        }
        return sum() + " " + one(new String[] {"<", "<=", "=", ">=", ">"}) + sum();
    }

    private String test(int deep) {
        StringBuilder b = new StringBuilder(fact(deep));
        while (upTo(3) == 0 && b.length() < 300) {
            b.append(upTo(1) == 0 ? " and " : " or ").append(fact(deep));
        }
        return b.toString();
    }

    private String deepText() {
        StringBuilder b = new StringBuilder("wait ");
        StringBuilder close = new StringBuilder();
        int deep = 8 + upTo(4);
        for (int i = 0; i < deep; i++) {
            boolean not = upTo(1) == 0;
            b.append(not ? "not " : "[");
            close.append(not ? "" : "]");
        }
        return b.append(sum()).append(" > 1").append(close).toString();
    }

    private String longText() {
        StringBuilder b = new StringBuilder("turn 1");
        int values = 52 + upTo(12);
        boolean inTest = false;
        for (int i = 1; i < values; i++) {
            if (!inTest && upTo(40) == 0) {
                b.append(" if gap>0");
                inTest = true;
            } else if (inTest && upTo(8) == 0) {
                b.append(" or 1<2");
            } else {
                b.append("+").append(one(new String[] {"1", "gap", "day", "007", "99999", "123456"}));
            }
        }
        return b.toString();
    }

    /** Pulls and waits by what it sees: such pairs of RULES zigzag at length. */
    private String restless() {
        return "pull " + plainFact() + (upTo(1) == 0 ? " and " : " or ") + plainFact() + ";wait " + plainFact() + " and "
                + plainFact() + ";turn " + one(VALUES) + " - " + one(VALUES) + " if " + plainFact() + ";turn "
                + one(new String[] {"1", "2", "0 - 1", "0-2", "last", "last + 1"}) + ";rise " + one(VALUES) + "-" + one(VALUES);
    }

    private String plainFact() {
        return one(VALUES) + one(new String[] {"<", ">", "=", "<="}) + one(VALUES)
                + (upTo(1) == 0 ? one(new String[] {"+", "-", "*"}) + one(VALUES) : "");
    }

    private String ruleText() {
        if (upTo(3) == 0) {
            return restless();
        }
        if (upTo(1) == 0) {
            return one(LIVELY);
        }
        if (upTo(12) == 0) {
            return deepText();
        }
        if (upTo(12) == 0) {
            return longText();
        }
        StringBuilder b = new StringBuilder();
        int clauses = upTo(20) == 0 ? 10 + upTo(4) : 1 + upTo(3);
        for (int i = 0; i < clauses && b.length() < 330; i++) {
            b.append(i > 0 ? ";" : "");
            int kind = upTo(9);
            if (kind < 2) {
                b.append("wait ").append(test(0));
            } else if (kind < 4) {
                b.append("pull ").append(test(0));
            } else {
                b.append(kind < 8 ? "turn " : "rise ").append(sum()).append(upTo(1) == 0 ? " if " + test(0) : "");
            }
        }
        String text = b.length() > 400 ? b.substring(0, 400) : b.toString();
        return spoiled(text);
    }

    /** Mostly a RULE that is there, at times one that is not. */
    private int rule() {
        return upTo(15) == 0 ? upTo(9) - 2 : upTo(model.rules.size()) - 1;
    }

    private int side() {
        return upTo(15) == 0 ? upTo(3) - 1 : upTo(1);
    }

    /** At times the first or last number that is right, or the one beside it: far bounds were hardly met otherwise. */
    private int some(int least, int most) {
        if (upTo(8) > 0) {
            return least + upTo(most - least);
        }
        return new int[] {least - 1, least, most, most + 1}[upTo(3)];
    }

    private void call() {
        int a, b, c, d, e, f;
        switch (upTo(24)) {
            case 0 -> check("yard(" + (a = side()) + ", " + (b = some(0, 6)) + ", " + (c = some(0, 3)) + ")",
                    program.yard(a, b, c), model.yard(a, b, c));
            case 1, 2 -> check("tip(" + (a = side()) + ", " + (b = some(0, 6)) + ")", program.tip(a, b), model.tip(a, b));
            case 3 -> check("err(" + (a = side()) + ", " + (b = some(0, 7)) + ", " + (c = some(-9, 9)) + ")",
                    program.err(a, b, c), model.err(a, b, c));
            case 4, 5 -> check("build(" + (a = side()) + ", " + (b = some(-2, 2)) + ", " + (c = some(-1, 1)) + ")",
                    program.build(a, b, c), model.build(a, b, c));
            case 6 -> check("pull(" + (a = side()) + ")", program.pull(a), model.pull(a));
            case 7 -> check("spring(" + (a = rule()) + ", " + (b = rule()) + ", "
                    + (c = upTo(6) == 0 ? some(1, 200) : some(1, 3)) + ")", program.spring(a, b, c), model.spring(a, b, c));
            case 8 -> check("miss(" + (a = some(0, 3)) + ")", program.miss(a), model.miss(a));
            case 9, 10 -> check("ahead(" + (a = rule()) + ", " + (b = rule()) + ", "
                    + (c = upTo(4) == 0 ? some(0, 400) : some(0, 9)) + ", " + (d = some(0, 5)) + ")",
                    program.ahead(a, b, c, d), model.ahead(a, b, c, d));
            case 11 -> check("zigzag(" + (a = rule()) + ", " + (b = rule()) + ", " + (c = some(0, 1)) + ")",
                    program.zigzag(a, b, c), model.zigzag(a, b, c));
            case 12 -> check("whatever(" + (a = rule()) + ", " + (b = rule()) + ", " + (c = some(0, 60)) + ", "
                    + (d = side()) + ", " + (e = some(0, 3)) + ", " + (f = some(1, 9)) + ")",
                    program.whatever(a, b, c, d, e, f), model.whatever(a, b, c, d, e, f));
            case 13 -> check("straight(" + (a = side()) + ", " + (b = rule()) + ", " + (c = some(0, 6)) + ")",
                    program.straight(a, b, c), model.straight(a, b, c));
            case 14 -> check("spite(" + (a = side()) + ", " + (b = rule()) + ", " + (c = some(0, 8)) + ", "
                    + (d = some(0, 4)) + ")", program.spite(a, b, c, d), model.spite(a, b, c, d));
            case 15 -> check("mend(" + (a = some(0, 1)) + ")", program.mend(a), model.mend(a));
            case 16 -> {
                for (int i = upTo(2); i >= 0; i--) {
                    ruin();
                }
                inquest();
            }
            case 17 -> check("erred(" + (a = rule()) + ", " + (b = rule()) + ", " + (c = upTo(9) == 0 ? some(1, 4) : some(1, 2))
                    + ", " + (d = some(1, 9)) + ", " + (e = some(0, 2 * c)) + ")",
                    program.erred(a, b, c, d, e), model.erred(a, b, c, d, e));
            case 18 -> check("seed(" + (a = random.nextInt()) + ")", program.seed(a), model.seed(a));
            case 19 -> check("tried(" + (a = rule()) + ", " + (b = rule()) + ", " + (c = some(1, 20)) + ", "
                    + (d = some(1, 200)) + ", " + (e = some(0, 100)) + ", " + (f = some(0, 1)) + ")",
                    program.tried(a, b, c, d, e, f), model.tried(a, b, c, d, e, f));
            case 20 -> check("leap(" + (a = upTo(9) * 100 + upTo(5)) + ")", program.leap(a), model.leap(a));
            case 21, 22 -> check("count(" + (a = some(0, 9)) + ")", program.count(a), model.count(a));
            case 23 -> check("image(" + (a = some(0, 3)) + ")", program.image(a), model.image(a));
            default -> check("back(" + (a = some(0, 3)) + ")", program.back(a), model.back(a));
        }
    }

    /** RUINS as some row of ERRORS leaves them, of some places, and who erred by them. */
    private void inquest() {
        int left = rule(), right = rule(), n = 1 + upTo(2), e = 9 - upTo(3);
        if (!model.ruled(left, right) || upTo(2) == 0) {
            return;
        }
        check("ruin(0, -1, 0)", program.ruin(0, -1, 0), model.ruin(0, -1, 0));
        long row = random.nextLong();
        Model.State then = model.after(left, right, n,
                (side, day) -> (int) (Math.floorMod(row >> 4 * (day % 8) + 2 * side, 4L) % 3 - 1) * e);
        for (int side = 0; side < 2; side++) {
            for (int place = 0; place < then.yards.get(side).size(); place++) {
                int line = then.yards.get(side).get(place)[0];
                if (upTo(2) > 0) {
                    check("ruin(" + side + ", " + place + ", " + line + ")", program.ruin(side, place, line),
                            model.ruin(side, place, line));
                }
            }
        }
        for (int what = 0; what <= 2 * n; what++) {
            check("erred(" + left + ", " + right + ", " + n + ", " + e + ", " + what + ")",
                    program.erred(left, right, n, e, what), model.erred(left, right, n, e, what));
        }
    }

    /** Often a LINE that a YARD has now, so that some rows leave the RUINS and some do not. */
    private void ruin() {
        int side = side();
        int place = some(-1, upTo(9) == 0 ? 39 : 3);
        int line = upTo(1) == 0 ? upTo(12) - 3 : some(-9999, 9999);
        int there = model.yard(side, place, 0);
        if (there == -100000 && model.river != null && upTo(1) == 0) {
            place = model.state.yards.get(side & 1).size() + upTo(1);
            line = model.tip(side & 1, 1) + upTo(4) - 2;
        }
        if (there != -100000 && upTo(2) > 0) {
            line = there;
        }
        check("ruin(" + side + ", " + place + ", " + line + ")", program.ruin(side, place, line),
                model.ruin(side, place, line));
    }
}
