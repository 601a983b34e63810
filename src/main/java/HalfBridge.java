import java.util.Arrays;

/** Two banks of a river that build half a bridge each towards one another, as DOC.md promises it. */
public final class HalfBridge {
    public static final int NONE = -1;

    private static final int IMPOSSIBLE = -2;
    private static final int LACKING = -100000;
    private static final int NO_TURN = -100;
    private static final int TAPE_ROOM = 400;
    private static final int FED_BYTES = 20;
    private static final int RULE_ROOM = 6;
    private static final int IMAGE_ROOM = 4;
    private static final int LAST_DAY = 9999;

    private final byte[] tape = new byte[TAPE_ROOM];
    private int tapeSize;
    private final Rule[] rules = new Rule[RULE_ROOM];
    private int ruleCount;
    private final Site site = new Site();
    private final Site[] images = new Site[IMAGE_ROOM];
    private final Tokens tokens = new Tokens();
    private final RiverReader riverReader = new RiverReader(tokens);
    private final RuleReader ruleReader = new RuleReader(tokens);
    private final Foresight foresight = new Foresight();

    public HalfBridge() {
    }

    public int feed(int a, int b, int c, int d, int e) {
        if (tapeSize + FED_BYTES > TAPE_ROOM) {
            return NONE;
        }
        putOnTape(a);
        putOnTape(b);
        putOnTape(c);
        putOnTape(d);
        putOnTape(e);
        return tapeSize;
    }

    public int end(int n) {
        if (n < 0 || n > tapeSize) {
            return NONE;
        }
        tapeSize = n;
        return n;
    }

    public int river() {
        scanTape();
        River told = riverReader.read();
        if (told == null) {
            return -2 - tokens.fault;
        }
        site.beginAt(told);
        return told.wide;
    }

    public int rule() {
        if (ruleCount >= RULE_ROOM) {
            return NONE;
        }
        scanTape();
        Rule told = ruleReader.read();
        if (told == null) {
            return -2 - tokens.fault;
        }
        rules[ruleCount] = told;
        ruleCount++;
        return ruleCount - 1;
    }

    public int yard(int side, int yard, int what) {
        Span span = site.span;
        if (!isSide(side) || yard < 0 || yard >= span.yardsOf(side)) {
            return LACKING;
        }
        switch (what) {
            case 0:
                return span.lineAt(side, yard);
            case 1:
                return span.heightAt(side, yard);
            case 2:
                return span.lineAt(side, yard) - span.lineAt(side, yard - 1);
            case 3:
                return span.heightAt(side, yard) - span.heightAt(side, yard - 1);
            default:
                return LACKING;
        }
    }

    public int tip(int side, int what) {
        if (!hasRiver() || !isSide(side)) {
            return LACKING;
        }
        Span span = site.span;
        int error = site.errorOn(side, span.day);
        switch (what) {
            case 0:
                return span.yardsOf(side);
            case 1:
                return span.tipLine(side);
            case 2:
                return span.tipHeight(side);
            case 3:
                return span.crookedness(side);
            case 4:
                return span.seenLine(side, error);
            case 5:
                return span.seenHeight(side, error);
            case 6:
                return span.river.eyes[side];
            default:
                return LACKING;
        }
    }

    public int err(int side, int place, int n) {
        if (!hasRiver() || !isSide(side) || !isWithin(place, 0, 7) || !isWithin(n, -9, 9)) {
            return LACKING;
        }
        return site.tellError(side, place, n);
    }

    public boolean build(int side, int turn, int rise) {
        int step = site.span.river.step;
        if (!hasRiver() || !isSide(side) || !isWithin(turn, -step, step) || !isWithin(rise, -step, step)) {
            return false;
        }
        return site.span.add(side, turn, rise);
    }

    public boolean pull(int side) {
        if (!isSide(side) || site.span.yardsOf(side) == 0) {
            return false;
        }
        site.span.take(side, 1);
        return true;
    }

    public int spring(int left, int right, int n) {
        if (!areRulesAtRiver(left, right) || !isWithin(n, 1, 200) || site.span.day + n > LAST_DAY) {
            return NONE;
        }
        foresight.go(site.span, site, ruleOf(left), ruleOf(right), n);
        return site.span.day;
    }

    public int miss(int what) {
        if (!hasRiver()) {
            return NONE;
        }
        Span span = site.span;
        switch (what) {
            case 0:
                return span.missOfLines();
            case 1:
                return span.missOfHeights();
            case 2:
                return span.isMet() ? 1 : 0;
            case 3:
                return span.isInTime() ? 1 : 0;
            default:
                return NONE;
        }
    }

    public int ahead(int left, int right, int n, int what) {
        if (!areRulesAtRiver(left, right) || !isWithin(n, 0, 400) || !isWithin(what, 0, 5)) {
            return NONE;
        }
        Span then = foresight.spanAfter(site, ruleOf(left), ruleOf(right), n);
        switch (what) {
            case 0:
                return then.isMet() ? then.day : IMPOSSIBLE;
            case 1:
                return then.missOfLines();
            case 2:
                return then.missOfHeights();
            case 3:
                return then.crookedness(0);
            case 4:
                return then.crookedness(1);
            default:
                return then.isInTime() ? 1 : 0;
        }
    }

    public int zigzag(int left, int right, int what) {
        if (!areRulesAtRiver(left, right) || !isWithin(what, 0, 1)) {
            return NONE;
        }
        if (!foresight.comesAgain(site, ruleOf(left), ruleOf(right))) {
            return IMPOSSIBLE;
        }
        return what == 0 ? foresight.leadIn : foresight.period;
    }

    public int whatever(int left, int right, int n, int side, int k, int times) {
        if (!areRulesAtRiver(left, right) || !isWithin(n, 0, 60) || !isSide(side)
                || !isWithin(k, 0, 3) || !isWithin(times, 1, 9)) {
            return NONE;
        }
        int rows = 1;
        for (int i = 0; i < k; i++) {
            rows *= 3;
        }
        int inTime = 0;
        for (int row = 0; row < rows; row++) {
            foresight.tellRow(side, row, k, times);
            if (foresight.spanByRow(site, ruleOf(left), ruleOf(right), n).isInTime()) {
                inTime++;
            }
        }
        return inTime;
    }

    public int straight(int side, int rule, int what) {
        if (!isFreeHand(side, rule) || !isWithin(what, 0, FreeHand.STRAIGHT_DAYS)) {
            return LACKING;
        }
        FreeHand hand = foresight.hand;
        hand.goStraight(site, side, ruleOf(rule));
        if (!hand.found) {
            return IMPOSSIBLE;
        }
        return what == 0 ? hand.best : hand.bestTurnOn(what - 1);
    }

    public int spite(int side, int rule, int c, int what) {
        if (!isFreeHand(side, rule) || !isWithin(c, 0, 8) || !isWithin(what, 0, FreeHand.SPITE_DAYS)) {
            return LACKING;
        }
        FreeHand hand = foresight.hand;
        hand.goSpiteful(site, side, ruleOf(rule), c);
        return what == 0 ? hand.best : hand.bestTurnOn(what - 1);
    }

    public int mend(int what) {
        if (!hasRiver() || !isWithin(what, 0, 1)) {
            return NONE;
        }
        Span span = site.span;
        int standing = span.yardsOf(0) + span.yardsOf(1);
        for (int pulled = 0; pulled <= standing; pulled++) {
            for (int left = 0; left <= pulled; left++) {
                if (span.canMeetWithout(left, pulled - left)) {
                    return what == 0 ? left : pulled - left;
                }
            }
        }
        return IMPOSSIBLE;
    }

    public boolean ruin(int side, int place, int line) {
        if (!hasRiver() || !isSide(side)) {
            return false;
        }
        // No LINE is told at place NONE, so that any number may stand for it there.
        if (place == NONE) {
            site.clearRuins();
            return true;
        }
        if (!isWithin(place, 0, Span.ROOM - 1) || !isWithin(line, -9999, 9999)) {
            return false;
        }
        site.tellRuin(side, place, line);
        return true;
    }

    public int erred(int left, int right, int n, int e, int what) {
        if (!areRulesAtRiver(left, right) || !isWithin(n, 1, Inquest.DAYS) || !isWithin(e, 1, 9)
                || !isWithin(what, 0, 2 * n)) {
            return NONE;
        }
        Inquest inquest = foresight.inquest;
        inquest.hold(site, ruleOf(left), ruleOf(right), n, e);
        return what == 0 ? inquest.rows : inquest.verdict(what - 1);
    }

    public int seed(int x) {
        if (x < 0) {
            return NONE;
        }
        int was = site.x;
        site.x = x;
        return was;
    }

    public int tried(int left, int right, int m, int n, int odds, int what) {
        if (!areRulesAtRiver(left, right) || !isWithin(m, 1, 20) || !isWithin(n, 1, 200)
                || !isWithin(odds, 0, 100) || !isWithin(what, 0, 1)) {
            return NONE;
        }
        int inTime = 0;
        int standing = 0;
        foresight.x = site.x;
        for (int i = 0; i < m; i++) {
            Span then = foresight.spanTried(site, ruleOf(left), ruleOf(right), n, odds);
            inTime += then.isInTime() ? 1 : 0;
            standing += then.yardsOf(0) + then.yardsOf(1);
        }
        return what == 0 ? inTime : standing;
    }

    public int leap(int year) {
        if (!isWithin(year, 1, 9999)) {
            return NONE;
        }
        return year % 4 == 0 && year % 100 != 0 || year % 400 == 0 ? 1 : 0;
    }

    public int count(int what) {
        Span span = site.span;
        switch (what) {
            case 0:
                return span.river.wide;
            case 1:
                return span.gap();
            case 2:
                return span.day;
            case 3:
                return ruleCount;
            case 4:
                return span.river.floods;
            case 5:
                return span.river.step;
            case 6:
                return span.river.inches;
            case 7:
                return site.ruinsTold;
            case 8:
                return site.x;
            case 9:
                return tapeSize;
            default:
                return NONE;
        }
    }

    public int image(int k) {
        if (!isWithin(k, 0, IMAGE_ROOM - 1)) {
            return NONE;
        }
        if (images[k] == null) {
            images[k] = new Site();
        }
        images[k].become(site);
        return site.span.day;
    }

    public int back(int k) {
        if (!isWithin(k, 0, IMAGE_ROOM - 1) || images[k] == null) {
            return NONE;
        }
        site.become(images[k]);
        return site.span.day;
    }

    private void putOnTape(int number) {
        for (int shift = 24; shift >= 0 && tapeSize < TAPE_ROOM; shift -= 8) {
            tape[tapeSize] = (byte) (number >> shift);
            tapeSize++;
        }
    }

    /** The TAPE is empty behind this even if a fault is found: rule() says so, and river() likewise. */
    private void scanTape() {
        tokens.scan(tape, tapeSize);
        tapeSize = 0;
    }

    private boolean hasRiver() {
        return site.span.river.wide > 0;
    }

    private boolean isRule(int rule) {
        return rule >= NONE && rule < ruleCount;
    }

    private boolean areRulesAtRiver(int left, int right) {
        return hasRiver() && isRule(left) && isRule(right);
    }

    private boolean isFreeHand(int side, int rule) {
        return hasRiver() && isSide(side) && isRule(rule) && !site.span.isMet();
    }

    /** Null stands for NONE: who has no RULE builds straight on. */
    private Rule ruleOf(int rule) {
        return rule >= 0 && rule < ruleCount ? rules[rule] : null;
    }

    private static boolean isSide(int side) {
        return side == 0 || side == 1;
    }

    private static boolean isWithin(int number, int least, int most) {
        return number >= least && number <= most;
    }

    /** A text cut into signs, words and numbers, and the first fault that its reader found. */
    static final class Tokens {
        static final int END = 0;
        static final int BAD = 1;
        static final int NUMBER = 2;
        static final int AT_MOST = 3;
        static final int AT_LEAST = 4;
        static final int WIDE = 256;
        static final int BANK = 257;
        static final int EYES = 258;
        static final int STEP = 259;
        static final int INCHES = 260;
        static final int FLOOD = 261;
        static final int TURN = 262;
        static final int RISE = 263;
        static final int WAIT = 264;
        static final int PULL = 265;
        static final int IF = 266;
        static final int OR = 267;
        static final int AND = 268;
        static final int NOT = 269;
        static final int SIDE = 270;
        static final int LINE = 271;
        static final int HEIGHT = 272;
        static final int OTHER = 273;
        static final int TALL = 274;
        static final int GAP = 275;
        static final int DAY = 276;
        static final int YARDS = 277;
        static final int LAST = 278;

        static final int OUT_OF_PLACE = 0;
        static final int NOT_AS_TOLD = 1;
        static final int TOO_DEEP = 2;
        static final int TOO_MANY = 3;
        static final int CLAUSE_TOO_MANY = 4;

        private static final int DIGITS = 5;
        private static final int OVERLONG = -1;

        private final int[] kinds = new int[TAPE_ROOM + 1];
        private final int[] places = new int[TAPE_ROOM + 1];
        private final int[] values = new int[TAPE_ROOM + 1];
        private int size;
        private int at;
        int fault;

        void scan(byte[] text, int length) {
            size = 0;
            at = 0;
            fault = 0;
            int n = Math.min(length, text.length);
            int i = 0;
            while (i < n) {
                int after = Math.max(runEnd(text, i, n), i + 1);
                if (text[i] != ' ') {
                    put(kindOf(text, i, after), i, valueOf(text, i, after));
                }
                i = after;
            }
            put(END, n, 0);
        }

        /** Behind a fault nothing can stand any more, so that every reader comes to its end. */
        int kind() {
            return fault == 0 && at < size ? kinds[at] : BAD;
        }

        /** Of a NUMBER; below 0 if it has too many digits. */
        int value() {
            return at < size ? values[at] : OVERLONG;
        }

        void next() {
            if (at < size - 1) {
                at++;
            }
        }

        /** The first fault stays, as the text is read from its begin to its end. */
        void fail(int why) {
            if (fault == 0 && at < size) {
                fault = 1 + 8 * places[at] + why;
            }
        }

        private void put(int kind, int place, int value) {
            if (size < kinds.length) {
                kinds[size] = kind;
                places[size] = place;
                values[size] = value;
                size++;
            }
        }

        private static int runEnd(byte[] text, int from, int n) {
            int i = from + 1;
            if (isLetter(text[from])) {
                while (i < n && isLetter(text[i])) {
                    i++;
                }
            } else if (isDigit(text[from])) {
                while (i < n && isDigit(text[i])) {
                    i++;
                }
            } else if ((text[from] == '<' || text[from] == '>') && i < n && text[i] == '=') {
                i++;
            }
            return i;
        }

        private static int kindOf(byte[] text, int from, int to) {
            byte first = text[from];
            if (isLetter(first)) {
                int kind = riverWord(text, from, to);
                return kind == BAD ? ruleWord(text, from, to) : kind;
            }
            if (isDigit(first)) {
                return NUMBER;
            }
            if (to - from == 2) {
                return first == '<' ? AT_MOST : AT_LEAST;
            }
            return isSign(first) ? first : BAD;
        }

        private static int valueOf(byte[] text, int from, int to) {
            if (to - from > DIGITS || !isDigit(text[from])) {
                return OVERLONG;
            }
            int value = 0;
            for (int i = from; i < to; i++) {
                value = value * 10 + text[i] - '0';
            }
            return value;
        }

        private static boolean isLetter(byte b) {
            return b >= 'a' && b <= 'z';
        }

        private static boolean isDigit(byte b) {
            return b >= '0' && b <= '9';
        }

        private static boolean isSign(byte b) {
            switch (b) {
                case ';':
                case '[':
                case ']':
                case '<':
                case '=':
                case '>':
                case '+':
                case '-':
                case '*':
                case '/':
                    return true;
                default:
                    return false;
            }
        }

        private static int riverWord(byte[] text, int from, int to) {
            if (spells(text, from, to, "wide")) {
                return WIDE;
            }
            if (spells(text, from, to, "bank")) {
                return BANK;
            }
            if (spells(text, from, to, "eyes")) {
                return EYES;
            }
            if (spells(text, from, to, "step")) {
                return STEP;
            }
            if (spells(text, from, to, "inches")) {
                return INCHES;
            }
            return spells(text, from, to, "flood") ? FLOOD : BAD;
        }

        private static int ruleWord(byte[] text, int from, int to) {
            if (spells(text, from, to, "turn")) {
                return TURN;
            }
            if (spells(text, from, to, "rise")) {
                return RISE;
            }
            if (spells(text, from, to, "wait")) {
                return WAIT;
            }
            if (spells(text, from, to, "pull")) {
                return PULL;
            }
            if (spells(text, from, to, "if")) {
                return IF;
            }
            if (spells(text, from, to, "or")) {
                return OR;
            }
            if (spells(text, from, to, "and")) {
                return AND;
            }
            return spells(text, from, to, "not") ? NOT : valueWord(text, from, to);
        }

        private static int valueWord(byte[] text, int from, int to) {
            if (spells(text, from, to, "side")) {
                return SIDE;
            }
            if (spells(text, from, to, "line")) {
                return LINE;
            }
            if (spells(text, from, to, "height")) {
                return HEIGHT;
            }
            if (spells(text, from, to, "other")) {
                return OTHER;
            }
            if (spells(text, from, to, "tall")) {
                return TALL;
            }
            if (spells(text, from, to, "gap")) {
                return GAP;
            }
            if (spells(text, from, to, "day")) {
                return DAY;
            }
            if (spells(text, from, to, "yards")) {
                return YARDS;
            }
            return spells(text, from, to, "last") ? LAST : BAD;
        }

        private static boolean spells(byte[] text, int from, int to, String word) {
            if (to - from != word.length() || from < 0 || to > text.length) {
                return false;
            }
            for (int i = from; i < to; i++) {
                if (text[i] != word.charAt(i - from)) {
                    return false;
                }
            }
            return true;
        }
    }

    /** What a told RIVER is; one of width 0 stands for none, so that all its counts are 0. */
    static final class River {
        static final int FLOOD_ROOM = 8;

        int wide;
        int step;
        int inches;
        int floods;
        final int[] bankLine = new int[2];
        final int[] bankHeight = new int[2];
        final int[] eyes = new int[2];
        final int[] floodDay = new int[FLOOD_ROOM];
        final int[] floodYards = new int[FLOOD_ROOM];
    }

    /** Reads a RIVER from scanned signs. */
    static final class RiverReader {
        private static final int CLAUSES = 24;

        private final Tokens tokens;
        private boolean stepTold;
        private boolean inchesTold;

        RiverReader(Tokens tokens) {
            this.tokens = tokens;
        }

        /** Null if there is a fault, which the signs keep then. */
        River read() {
            stepTold = false;
            inchesTold = false;
            River told = new River();
            for (int clause = 0; clause <= CLAUSES; clause++) {
                readClause(told, clause);
                if (tokens.kind() == Tokens.END) {
                    return told;
                }
                if (tokens.kind() != ';') {
                    tokens.fail(Tokens.OUT_OF_PLACE);
                    return null;
                }
                tokens.next();
            }
            return null;
        }

        private void readClause(River told, int clause) {
            int kind = tokens.kind();
            if (kind < Tokens.WIDE || kind > Tokens.FLOOD) {
                tokens.fail(Tokens.OUT_OF_PLACE);
                return;
            }
            if (clause >= CLAUSES || isClauseTooMany(told, clause, kind)) {
                tokens.fail(Tokens.CLAUSE_TOO_MANY);
                return;
            }
            tokens.next();
            switch (kind) {
                case Tokens.WIDE:
                    told.wide = number(2, 40);
                    told.step = 1;
                    break;
                case Tokens.BANK:
                    readBank(told);
                    break;
                case Tokens.EYES:
                    readEyes(told);
                    break;
                case Tokens.STEP:
                    told.step = number(1, 20);
                    stepTold = true;
                    break;
                case Tokens.INCHES:
                    told.inches = number(0, 99);
                    inchesTold = true;
                    break;
                default:
                    readFlood(told);
                    break;
            }
        }

        private boolean isClauseTooMany(River told, int clause, int kind) {
            if ((clause == 0) != (kind == Tokens.WIDE)) {
                return true;
            }
            switch (kind) {
                case Tokens.STEP:
                    return stepTold;
                case Tokens.INCHES:
                    return inchesTold;
                case Tokens.FLOOD:
                    return told.floods >= River.FLOOD_ROOM;
                default:
                    return false;
            }
        }

        private void readBank(River told) {
            int side = number(0, 1);
            told.bankLine[side] = number(0, 99);
            told.bankHeight[side] = number(0, 99);
        }

        private void readEyes(River told) {
            int side = number(0, 1);
            told.eyes[side] = number(0, 9);
        }

        private void readFlood(River told) {
            int day = number(0, 399);
            int yards = number(1, 9);
            if (told.floods < River.FLOOD_ROOM) {
                told.floodDay[told.floods] = day;
                told.floodYards[told.floods] = yards;
                told.floods++;
            }
        }

        /** A number between these bounds even if there is a fault, so that it can be an index. */
        private int number(int least, int most) {
            if (tokens.kind() != Tokens.NUMBER) {
                tokens.fail(Tokens.OUT_OF_PLACE);
                return least;
            }
            int value = tokens.value();
            if (value < least || value > most) {
                tokens.fail(Tokens.NOT_AS_TOLD);
                return least;
            }
            tokens.next();
            return value;
        }
    }

    /** A RULE, its SUMS and TESTS turned so that each operation stands behind what it is done to. */
    static final class Rule {
        static final int CLAUSES = 12;

        final int clauses;
        final int[] kinds;
        /** The code of a clause begins here: its SUM, if it has one, then its TEST. */
        final int[] starts;
        /** The TEST of a clause begins here; there is none if the clause ends here. */
        final int[] tests;
        final int[] code;

        Rule(int clauses, int[] kinds, int[] starts, int[] tests, int[] code) {
            this.clauses = clauses;
            this.kinds = kinds;
            this.starts = starts;
            this.tests = tests;
            this.code = code;
        }
    }

    /** Reads a RULE from scanned signs. */
    static final class RuleReader {
        private static final int DEEPEST = 10;
        private static final int ITEMS = 60;

        private final Tokens tokens;
        private final int[] kinds = new int[Rule.CLAUSES];
        private final int[] starts = new int[Rule.CLAUSES + 1];
        private final int[] tests = new int[Rule.CLAUSES];
        private final int[] code = new int[TAPE_ROOM];
        private int size;
        private int items;

        RuleReader(Tokens tokens) {
            this.tokens = tokens;
        }

        /** Null if there is a fault, which the signs keep then. */
        Rule read() {
            size = 0;
            items = 0;
            for (int clause = 0; clause <= Rule.CLAUSES; clause++) {
                readClause(clause);
                if (tokens.kind() == Tokens.END) {
                    return new Rule(clause + 1, Arrays.copyOf(kinds, clause + 1), Arrays.copyOf(starts, clause + 2),
                            Arrays.copyOf(tests, clause + 1), Arrays.copyOf(code, size));
                }
                if (tokens.kind() != ';') {
                    tokens.fail(Tokens.OUT_OF_PLACE);
                    return null;
                }
                tokens.next();
            }
            return null;
        }

        private void readClause(int clause) {
            int kind = tokens.kind();
            if (kind < Tokens.TURN || kind > Tokens.PULL) {
                tokens.fail(Tokens.OUT_OF_PLACE);
                return;
            }
            if (clause >= Rule.CLAUSES) {
                tokens.fail(Tokens.CLAUSE_TOO_MANY);
                return;
            }
            tokens.next();
            kinds[clause] = kind;
            starts[clause] = size;
            boolean hasSum = kind == Tokens.TURN || kind == Tokens.RISE;
            if (hasSum) {
                readSum();
            }
            tests[clause] = size;
            if (!hasSum) {
                readTest(0);
            } else if (tokens.kind() == Tokens.IF) {
                tokens.next();
                readTest(0);
            }
            starts[clause + 1] = size;
        }

        private void readTest(int depth) {
            for (int part = 0; part < TAPE_ROOM; part++) {
                readFact(depth);
                for (int i = 0; i < TAPE_ROOM && tokens.kind() == Tokens.AND; i++) {
                    tokens.next();
                    readFact(depth);
                    put(-Tokens.AND);
                }
                if (part > 0) {
                    put(-Tokens.OR);
                }
                if (tokens.kind() != Tokens.OR) {
                    return;
                }
                tokens.next();
            }
        }

        private void readFact(int depth) {
            int deep = depth;
            while (deep < DEEPEST && tokens.kind() == Tokens.NOT) {
                tokens.next();
                deep++;
            }
            int kind = tokens.kind();
            if (deep >= DEEPEST && (kind == Tokens.NOT || kind == '[')) {
                tokens.fail(Tokens.TOO_DEEP);
                return;
            }
            if (kind == '[') {
                tokens.next();
                readTest(deep + 1);
                takeSign(tokens.kind() == ']');
            } else {
                readSum();
                int sign = tokens.kind();
                takeFactSign(sign);
                readSum();
                put(-sign);
            }
            for (int i = depth; i < deep; i++) {
                put(-Tokens.NOT);
            }
        }

        private void takeSign(boolean isRight) {
            if (!isRight) {
                tokens.fail(Tokens.OUT_OF_PLACE);
            }
            tokens.next();
        }

        private void takeFactSign(int sign) {
            boolean compares = sign == '<' || sign == '=' || sign == '>'
                    || sign == Tokens.AT_MOST || sign == Tokens.AT_LEAST;
            if (compares && items >= ITEMS) {
                tokens.fail(Tokens.TOO_MANY);
            }
            items++;
            takeSign(compares);
        }

        private void readSum() {
            int waiting = 0;
            for (int term = 0; term < TAPE_ROOM; term++) {
                readValue();
                for (int i = 0; i < TAPE_ROOM && (tokens.kind() == '*' || tokens.kind() == '/'); i++) {
                    int sign = tokens.kind();
                    tokens.next();
                    readValue();
                    put(-sign);
                }
                if (term > 0) {
                    put(-waiting);
                }
                waiting = tokens.kind();
                if (waiting != '+' && waiting != '-') {
                    return;
                }
                tokens.next();
            }
        }

        private void readValue() {
            int kind = tokens.kind();
            boolean isNumber = kind == Tokens.NUMBER;
            if (!isNumber && (kind < Tokens.SIDE || kind > Tokens.LAST)) {
                tokens.fail(Tokens.OUT_OF_PLACE);
                return;
            }
            if (isNumber && tokens.value() < 0) {
                tokens.fail(Tokens.NOT_AS_TOLD);
            }
            if (items >= ITEMS) {
                tokens.fail(Tokens.TOO_MANY);
            }
            items++;
            put(isNumber ? tokens.value() : -kind);
            tokens.next();
        }

        /** Numbers stand in the code as they are, words and operations as their kind below 0. */
        private void put(int operation) {
            if (size < code.length) {
                code[size] = operation;
                size++;
            }
        }
    }

    /** The YARDS of both SIDES over a RIVER on a day. */
    static final class Span {
        static final int ROOM = 40;
        static final int PULL_DOWN = -1;
        static final int STAY = -2;
        private static final int MOST_STEP = 20;
        private static final int TURNS = 2 * MOST_STEP + 1;
        /** A YARD is one of TURNS * TURNS: so many fit into 64 bits. */
        private static final int YARDS_PACKED = 5;
        static final int PACKED_ROOM = 1 + ROOM / YARDS_PACKED;

        River river = new River();
        int day;
        private final int[] yards = new int[2];
        private final int[] lines = new int[2 * ROOM];
        private final int[] heights = new int[2 * ROOM];

        void become(Span other) {
            river = other.river;
            day = other.day;
            for (int side = 0; side < 2; side++) {
                yards[side] = other.yards[side];
                System.arraycopy(other.lines, side * ROOM, lines, side * ROOM, yards[side]);
                System.arraycopy(other.heights, side * ROOM, heights, side * ROOM, yards[side]);
            }
        }

        void beginAt(River told) {
            river = told;
            day = 0;
            yards[0] = 0;
            yards[1] = 0;
        }

        int yardsOf(int side) {
            return yards[side];
        }

        int gap() {
            return river.wide - yards[0] - yards[1];
        }

        boolean isMet() {
            return gap() == 0;
        }

        /** A place that is not built is the bank's: so the first YARD has one ahead of it, too. */
        int lineAt(int side, int yard) {
            return yard < 0 || yard >= yards[side] ? river.bankLine[side] : lines[side * ROOM + yard];
        }

        int heightAt(int side, int yard) {
            return yard < 0 || yard >= yards[side] ? river.bankHeight[side] : heights[side * ROOM + yard];
        }

        boolean hasLine(int side, int yard, int line) {
            return yard < yards[side] && lineAt(side, yard) == line;
        }

        int tipLine(int side) {
            int built = yards[side];
            return built == 0 ? river.bankLine[side] : lines[side * ROOM + built - 1];
        }

        int tipHeight(int side) {
            int built = yards[side];
            return built == 0 ? river.bankHeight[side] : heights[side * ROOM + built - 1];
        }

        int lastTurn(int side) {
            return tipLine(side) - lineAt(side, yards[side] - 2);
        }

        int crookedness(int side) {
            int sum = 0;
            for (int i = 0; i < yards[side]; i++) {
                sum += Math.abs(lineAt(side, i) - lineAt(side, i - 1));
                sum += Math.abs(heightAt(side, i) - heightAt(side, i - 1));
            }
            return sum;
        }

        int seenLine(int side, int error) {
            return tipLine(1 - side) + error * river.eyes[side] * gap() / 90;
        }

        int seenHeight(int side, int error) {
            return tipHeight(1 - side) + -error * river.eyes[side] * gap() / 90;
        }

        int missOfLines() {
            return Math.abs(tipLine(0) - tipLine(1));
        }

        int missOfHeights() {
            return Math.abs(tipHeight(0) - tipHeight(1));
        }

        boolean isInTime() {
            return isMet() && missOfLines() <= river.inches && missOfHeights() <= river.inches;
        }

        boolean canMeetWithout(int left, int right) {
            if (left > yards[0] || right > yards[1]) {
                return false;
            }
            int reach = river.step * (gap() + left + right + 1);
            int leftTip = yards[0] - left - 1;
            int rightTip = yards[1] - right - 1;
            return Math.abs(lineAt(0, leftTip) - lineAt(1, rightTip)) <= reach
                    && Math.abs(heightAt(0, leftTip) - heightAt(1, rightTip)) <= reach;
        }

        /** False, and nothing happens, if there is no GAP. */
        boolean add(int side, int turn, int rise) {
            int place = yards[side];
            if (gap() <= 0 || place >= ROOM) {
                return false;
            }
            lines[side * ROOM + place] = tipLine(side) + turn;
            heights[side * ROOM + place] = tipHeight(side) + rise;
            yards[side] = place + 1;
            return true;
        }

        void take(int side, int most) {
            yards[side] = Math.max(0, yards[side] - most);
        }

        /** What a SIDE means to do on a day, as one number: PULL_DOWN, STAY, or a YARD as here. */
        static int planOfYard(int turn, int rise) {
            return (turn + MOST_STEP) * TURNS + rise + MOST_STEP;
        }

        void act(int side, int plan) {
            if (plan == PULL_DOWN) {
                take(side, 1);
            } else if (plan >= 0) {
                add(side, plan / TURNS - MOST_STEP, plan % TURNS - MOST_STEP);
            }
        }

        void endDay() {
            for (int i = 0; i < river.floods && i < River.FLOOD_ROOM; i++) {
                if (river.floodDay[i] == day) {
                    take(0, river.floodYards[i]);
                    take(1, river.floodYards[i]);
                }
            }
            day++;
        }

        /** All YARDS as numbers, the same for the same YARDS alone (over one RIVER). */
        void pack(long[] packed, int from) {
            if (from < 0 || from + PACKED_ROOM > packed.length) {
                return;
            }
            for (int i = 0; i < PACKED_ROOM; i++) {
                packed[from + i] = 0;
            }
            packed[from] = yards[0] * (ROOM + 1) + yards[1];
            int at = 0;
            for (int side = 0; side < 2; side++) {
                for (int i = 0; i < yards[side] && at < ROOM; i++) {
                    int turn = lineAt(side, i) - lineAt(side, i - 1);
                    int rise = heightAt(side, i) - heightAt(side, i - 1);
                    int place = from + 1 + at / YARDS_PACKED;
                    packed[place] = packed[place] * TURNS * TURNS + planOfYard(turn, rise);
                    at++;
                }
            }
        }
    }

    /** All that an IMAGE keeps. */
    static final class Site {
        static final int UNTOLD = 100000;
        private static final int PLACES = 8;

        final Span span = new Span();
        int x;
        int ruinsTold;
        private final int[] errors = new int[2 * PLACES];
        /** The first YARDS of both SIDES first, as these are most often told. */
        private final int[] ruins = new int[2 * Span.ROOM];

        Site() {
            Arrays.fill(ruins, UNTOLD);
        }

        void become(Site other) {
            span.become(other.span);
            x = other.x;
            ruinsTold = other.ruinsTold;
            System.arraycopy(other.errors, 0, errors, 0, errors.length);
            System.arraycopy(other.ruins, 0, ruins, 0, ruins.length);
        }

        void beginAt(River told) {
            span.beginAt(told);
            Arrays.fill(errors, 0);
            clearRuins();
        }

        int errorOn(int side, int day) {
            return errors[side * PLACES + Math.floorMod(day, PLACES)];
        }

        int tellError(int side, int place, int error) {
            int was = errorOn(side, place);
            errors[side * PLACES + Math.floorMod(place, PLACES)] = error;
            return was;
        }

        void clearRuins() {
            Arrays.fill(ruins, UNTOLD);
            ruinsTold = 0;
        }

        void tellRuin(int side, int place, int line) {
            int at = 2 * place + side;
            if (at >= 0 && at < ruins.length) {
                ruinsTold += ruins[at] == UNTOLD ? 1 : 0;
                ruins[at] = line;
            }
        }

        boolean areRuinsOf(Span then) {
            int seen = 0;
            for (int i = 0; i < ruins.length && seen < ruinsTold; i++) {
                if (ruins[i] != UNTOLD) {
                    seen++;
                    if (!then.hasLine(i % 2, i / 2, ruins[i])) {
                        return false;
                    }
                }
            }
            return true;
        }
    }

    /** Looks from a SIDE by its RULE and makes up its mind for a day. */
    static final class Looker {
        private final long[] words = new long[Tokens.LAST - Tokens.SIDE + 1];
        private final long[] stack = new long[64];

        int planOf(Span span, Rule rule, int side, int error) {
            if (rule == null) {
                return Span.planOfYard(0, 0);
            }
            look(span, side, error);
            if (someHolds(rule, Tokens.PULL)) {
                return Span.PULL_DOWN;
            }
            if (someHolds(rule, Tokens.WAIT)) {
                return Span.STAY;
            }
            int step = span.river.step;
            return Span.planOfYard(firstSum(rule, Tokens.TURN, step), firstSum(rule, Tokens.RISE, step));
        }

        /** In the order of the words' kinds. */
        private void look(Span span, int side, int error) {
            words[0] = side;
            words[1] = span.tipLine(side);
            words[2] = span.tipHeight(side);
            words[3] = span.seenLine(side, error);
            words[4] = span.seenHeight(side, error);
            words[5] = span.gap();
            words[6] = span.day;
            words[7] = span.yardsOf(side);
            words[8] = span.lastTurn(side);
        }

        private boolean someHolds(Rule rule, int kind) {
            for (int i = 0; i < rule.clauses; i++) {
                if (rule.kinds[i] == kind && worth(rule.code, rule.tests[i], rule.starts[i + 1]) != 0) {
                    return true;
                }
            }
            return false;
        }

        private int firstSum(Rule rule, int kind, int step) {
            for (int i = 0; i < rule.clauses; i++) {
                int test = rule.tests[i];
                int after = rule.starts[i + 1];
                if (rule.kinds[i] == kind && (test == after || worth(rule.code, test, after) != 0)) {
                    return (int) Math.max(-step, Math.min(step, worth(rule.code, rule.starts[i], test)));
                }
            }
            return 0;
        }

        /** Of a SUM its number, of a TEST 1 or 0. */
        private long worth(int[] code, int from, int to) {
            int top = 0;
            for (int i = Math.max(0, from); i < to && i < code.length; i++) {
                int operation = -code[i];
                if (operation == Tokens.NOT) {
                    if (top >= 1) {
                        stack[top - 1] = 1 - stack[top - 1];
                    }
                } else if (operation <= 0 || operation >= Tokens.SIDE) {
                    if (top < stack.length) {
                        stack[top] = operation <= 0 ? -operation : wordOf(operation);
                        top++;
                    }
                } else if (top >= 2) {
                    top--;
                    stack[top - 1] = joined(operation, stack[top - 1], stack[top]);
                }
            }
            return top >= 1 ? stack[top - 1] : 0;
        }

        private long wordOf(int kind) {
            int place = kind - Tokens.SIDE;
            return place >= 0 && place < words.length ? words[place] : 0;
        }

        private static long joined(int operation, long a, long b) {
            switch (operation) {
                case '+':
                    return a + b;
                case '-':
                    return a - b;
                case '*':
                    return a * b;
                case '/':
                    return b == 0 ? 0 : a / b;
                case '<':
                    return a < b ? 1 : 0;
                case Tokens.AT_MOST:
                    return a <= b ? 1 : 0;
                case '=':
                    return a == b ? 1 : 0;
                case Tokens.AT_LEAST:
                    return a >= b ? 1 : 0;
                case '>':
                    return a > b ? 1 : 0;
                case Tokens.AND:
                    return a & b;
                default:
                    return a | b;
            }
        }
    }

    /** DAYS gone through, in earnest or on a spare copy. */
    static final class Foresight {
        private static final int ZIGZAG_DAYS = 300;

        final Looker looker = new Looker();
        final FreeHand hand;
        final Inquest inquest;
        int x;
        int leadIn;
        int period;
        /** One for each day that a search has gone; the first serves all that needs but one. */
        private final Span[] spares = new Span[FreeHand.STRAIGHT_DAYS + 1];
        private final int[] row = new int[3];
        private int rowSide;
        private int rowDays;
        /** Made when it is first needed, as it is large. */
        private long[] packed;

        Foresight() {
            for (int i = 0; i < spares.length; i++) {
                spares[i] = new Span();
            }
            hand = new FreeHand(looker, spares);
            inquest = new Inquest(looker, spares);
        }

        /** DAYS till it is MET, by the told ERRORS. */
        void go(Span span, Site told, Rule left, Rule right, int n) {
            for (int i = 0; i < n && !span.isMet(); i++) {
                actBoth(span, left, right, told.errorOn(0, span.day), told.errorOn(1, span.day));
                span.endDay();
            }
        }

        /** Both look ahead of either's doing. */
        private void actBoth(Span span, Rule left, Rule right, int leftError, int rightError) {
            int leftPlan = looker.planOf(span, left, 0, leftError);
            int rightPlan = looker.planOf(span, right, 1, rightError);
            span.act(0, leftPlan);
            span.act(1, rightPlan);
        }

        Span spanAfter(Site told, Rule left, Rule right, int n) {
            Span span = spares[0];
            span.become(told.span);
            go(span, told, left, right, n);
            return span;
        }

        /** Each number of the row is told by a digit (of three) of its code. */
        void tellRow(int side, int code, int days, int times) {
            rowSide = side;
            rowDays = Math.min(days, row.length);
            int rest = code;
            for (int i = 0; i < rowDays; i++) {
                row[i] = (rest % 3 - 1) * times;
                rest /= 3;
            }
        }

        Span spanByRow(Site told, Rule left, Rule right, int n) {
            Span span = spares[0];
            span.become(told.span);
            for (int i = 0; i < n && !span.isMet(); i++) {
                actBoth(span, left, right, rowError(told, span.day, 0, i), rowError(told, span.day, 1, i));
                span.endDay();
            }
            return span;
        }

        private int rowError(Site told, int day, int side, int i) {
            return side == rowSide && i < rowDays ? row[i] : told.errorOn(side, day);
        }

        /** x goes on from one try to the next. */
        Span spanTried(Site told, Rule left, Rule right, int n, int odds) {
            Span span = spares[0];
            span.become(told.span);
            for (int i = 0; i < n && !span.isMet(); i++) {
                actBoth(span, left, right, told.errorOn(0, span.day), told.errorOn(1, span.day));
                span.endDay();
                x = (int) ((x * 1103515245L + 12345L) & 2147483647L);
                if (x / 65536 % 100 < odds) {
                    span.take(0, 1);
                    span.take(1, 1);
                }
            }
            return span;
        }

        /** As neither day nor ERRORS go on, the first YARDS that come again do so for ever. */
        boolean comesAgain(Site told, Rule left, Rule right) {
            if (packed == null) {
                packed = new long[(ZIGZAG_DAYS + 1) * Span.PACKED_ROOM];
            }
            Span span = spares[0];
            span.become(told.span);
            for (int i = 0; i <= ZIGZAG_DAYS; i++) {
                span.pack(packed, i * Span.PACKED_ROOM);
                leadIn = firstLike(i);
                if (leadIn < i) {
                    period = i - leadIn;
                    return true;
                }
                if (!span.isMet()) {
                    actBoth(span, left, right, told.errorOn(0, span.day), told.errorOn(1, span.day));
                }
            }
            return false;
        }

        private int firstLike(int last) {
            int room = Span.PACKED_ROOM;
            for (int i = 0; i < last; i++) {
                int same = 0;
                while (same < room && packed[i * room + same] == packed[last * room + same]) {
                    same++;
                }
                if (same == room) {
                    return i;
                }
            }
            return last;
        }
    }

    /** One SIDE builds as it likes: all its rows of TURNS are gone through, the lesser TURN first. */
    static final class FreeHand {
        static final int STRAIGHT_DAYS = 6;
        static final int SPITE_DAYS = 4;
        private static final int MOST_TURN = 2;

        boolean found;
        int best;
        private final Looker looker;
        private final Span[] spares;
        private final int[] turns = new int[STRAIGHT_DAYS];
        private final int[] bestTurns = new int[STRAIGHT_DAYS];
        private Site told;
        private Rule rule;
        private int side;
        private int days;
        private boolean isSpiteful;
        /** What all TURNS together may be. */
        private int purse;

        FreeHand(Looker looker, Span[] spares) {
            this.looker = looker;
            this.spares = spares;
        }

        void goStraight(Site site, int freeSide, Rule othersRule) {
            isSpiteful = false;
            days = STRAIGHT_DAYS;
            purse = STRAIGHT_DAYS * MOST_TURN;
            beginBy(site, freeSide, othersRule);
            goDeeper(0, 0);
        }

        void goSpiteful(Site site, int freeSide, Rule othersRule, int mostTurns) {
            isSpiteful = true;
            days = SPITE_DAYS;
            purse = mostTurns;
            beginBy(site, freeSide, othersRule);
            goDeeper(0, 0);
        }

        int bestTurnOn(int day) {
            return day >= 0 && day < bestTurns.length ? bestTurns[day] : NO_TURN;
        }

        private void beginBy(Site site, int freeSide, Rule othersRule) {
            told = site;
            side = freeSide;
            rule = othersRule;
            found = false;
            best = 0;
            spares[0].become(site.span);
        }

        private void goDeeper(int gone, int spent) {
            Span now = spares[gone];
            if (now.isMet() || gone >= days) {
                weigh(now, gone, spent);
                return;
            }
            // Two YARDS a day at most: a wider GAP can't be closed any more.
            if (!isSpiteful && now.gap() > 2 * (days - gone)) {
                return;
            }
            int other = 1 - side;
            int plan = looker.planOf(now, rule, other, told.errorOn(other, now.day));
            int reach = Math.min(MOST_TURN, now.river.step);
            boolean isBuilt = true;
            for (int turn = -reach; turn <= reach && isBuilt; turn++) {
                if (spent + Math.abs(turn) <= purse) {
                    isBuilt = goDay(now, spares[gone + 1], turn, plan);
                    turns[gone] = isBuilt ? turn : NO_TURN;
                    goDeeper(gone + 1, isBuilt ? spent + Math.abs(turn) : spent);
                }
            }
        }

        /** Whether the free SIDE could build. */
        private boolean goDay(Span now, Span then, int turn, int othersPlan) {
            then.become(now);
            boolean isBuilt;
            if (side == 0) {
                isBuilt = then.add(0, turn, 0);
                then.act(1, othersPlan);
            } else {
                then.act(0, othersPlan);
                isBuilt = then.add(1, turn, 0);
            }
            then.endDay();
            return isBuilt;
        }

        private void weigh(Span then, int gone, int spent) {
            if (isSpiteful) {
                int crooked = then.crookedness(1 - side);
                if (!found || crooked > best) {
                    keep(gone, crooked);
                }
            } else if (then.isInTime() && spent <= purse) {
                keep(gone, spent);
                // Of several with as few TURNS the first stays: a later row must have fewer.
                purse = spent - 1;
            }
        }

        private void keep(int gone, int worth) {
            found = true;
            best = worth;
            for (int i = 0; i < bestTurns.length; i++) {
                bestTurns[i] = i < gone ? turns[i] : NO_TURN;
            }
        }
    }

    /** Goes through all rows of ERRORS of both SIDES and keeps those that leave the told RUINS. */
    static final class Inquest {
        static final int DAYS = 4;

        int rows;
        private final Looker looker;
        private final Span[] spares;
        private final int[] errorSigns = new int[2 * DAYS];
        /** The right looks but once by each of its ERRORS on a day, whatever the left's is. */
        private final int[] rightPlans = new int[3 * DAYS];
        private final int[] erredRows = new int[2 * DAYS];
        private Site told;
        private Rule left;
        private Rule right;
        private int days;
        private int size;

        Inquest(Looker looker, Span[] spares) {
            this.looker = looker;
            this.spares = spares;
        }

        void hold(Site site, Rule leftRule, Rule rightRule, int n, int e) {
            told = site;
            left = leftRule;
            right = rightRule;
            days = Math.min(n, DAYS);
            size = e;
            rows = 0;
            Arrays.fill(erredRows, 0);
            spares[0].become(site.span);
            goDeeper(0);
        }

        /** 2: erred in all rows, 1: in some, 0: in none (so, too, if there are no rows). */
        int verdict(int place) {
            int hits = place >= 0 && place < erredRows.length ? erredRows[place] : 0;
            if (hits == 0) {
                return 0;
            }
            return hits == rows ? 2 : 1;
        }

        private void goDeeper(int gone) {
            Span now = spares[gone];
            if (gone >= days) {
                if (told.areRuinsOf(now)) {
                    tally();
                }
                return;
            }
            for (int sign = -1; sign <= 1; sign++) {
                rightPlans[3 * gone + 1 + sign] = looker.planOf(now, right, 1, sign * size);
            }
            for (int leftSign = -1; leftSign <= 1; leftSign++) {
                int leftPlan = looker.planOf(now, left, 0, leftSign * size);
                for (int rightSign = -1; rightSign <= 1; rightSign++) {
                    errorSigns[2 * gone] = leftSign;
                    errorSigns[2 * gone + 1] = rightSign;
                    goDay(now, spares[gone + 1], leftPlan, rightPlans[3 * gone + 1 + rightSign]);
                    goDeeper(gone + 1);
                }
            }
        }

        /** When it is MET no DAY comes any more, but the rows have their ERRORS all the same. */
        private void goDay(Span now, Span then, int leftPlan, int rightPlan) {
            then.become(now);
            if (!then.isMet()) {
                then.act(0, leftPlan);
                then.act(1, rightPlan);
                then.endDay();
            }
        }

        private void tally() {
            rows++;
            for (int i = 0; i < 2 * days; i++) {
                if (errorSigns[i] != 0) {
                    erredRows[i]++;
                }
            }
        }
    }
}
