import java.util.ArrayList;
import java.util.List;
import java.util.function.IntBinaryOperator;
import java.util.function.Predicate;
import java.util.function.ToLongFunction;

/** The document once more, as plainly as may be and without a thought of speed: RandomTest holds the program to it. */
final class Model {
    /** What one SIDE knows on a day. */
    static final class View {
        long side, line, height, other, tall, gap, day, yards, last;
    }

    static final class Clause {
        String kind;
        ToLongFunction<View> sum;
        Predicate<View> test;
    }

    static final class River {
        int wide, step = 1, inches;
        int[][] bank = new int[2][2];
        int[] eyes = new int[2];
        List<int[]> floods = new ArrayList<>();
    }

    static final class State {
        int day;
        List<List<int[]>> yards = List.of(new ArrayList<>(), new ArrayList<>());

        State copy() {
            State s = new State();
            s.day = day;
            for (int i = 0; i < 2; i++) {
                s.yards.get(i).addAll(yards.get(i));
            }
            return s;
        }

        String text() {
            StringBuilder b = new StringBuilder();
            for (List<int[]> l : yards) {
                b.append('|');
                for (int[] y : l) {
                    b.append(y[0]).append(',').append(y[1]).append(' ');
                }
            }
            return b.toString();
        }
    }

    static final class Fault extends RuntimeException {
        private static final long serialVersionUID = 1L;

        final int number;

        Fault(int place, int kind) {
            number = 1 + 8 * place + kind;
        }
    }

    static final class Image {
        River river;
        State state;
        int[][] errors;
        Integer[][] ruins;
        long x;
    }

    final List<Integer> tape = new ArrayList<>();
    final List<List<Clause>> rules = new ArrayList<>();
    final Image[] images = new Image[4];
    River river;
    State state = new State();
    int[][] errors = new int[2][8];
    Integer[][] ruins = new Integer[2][40];
    long x;

    // ---- texts

    /** Reads straight from the bytes, one thing after the other. */
    final class Text {
        final int[] bytes;
        int at;
        int items;

        Text() {
            bytes = tape.stream().mapToInt(i -> i).toArray();
        }

        void blanks() {
            while (at < bytes.length && bytes[at] == ' ') {
                at++;
            }
        }

        int peek() {
            blanks();
            return at < bytes.length ? bytes[at] : -1;
        }

        String peekWord() {
            blanks();
            StringBuilder b = new StringBuilder();
            for (int i = at; i < bytes.length && bytes[i] >= 'a' && bytes[i] <= 'z'; i++) {
                b.append((char) bytes[i]);
            }
            return b.toString();
        }

        boolean word(String w) {
            if (!peekWord().equals(w)) {
                return false;
            }
            at += w.length();
            return true;
        }

        int digits() {
            int c = peek();
            if (c < '0' || c > '9') {
                throw new Fault(at, 0);
            }
            int from = at;
            String s = "";
            int i = at;
            while (i < bytes.length && bytes[i] >= '0' && bytes[i] <= '9') {
                s += (char) bytes[i++];
            }
            if (s.length() > 5) {
                throw new Fault(from, 1);
            }
            return Integer.parseInt(s);
        }

        void skipDigits() {
            while (at < bytes.length && bytes[at] >= '0' && bytes[at] <= '9') {
                at++;
            }
        }

        int number(int least, int most) {
            int n = digits();
            if (n < least || n > most) {
                throw new Fault(at, 1);
            }
            skipDigits();
            return n;
        }

        River river() {
            River r = new River();
            boolean step = false, inches = false;
            for (int clause = 1;; clause++) {
                String w = peekWord();
                if (!List.of("wide", "bank", "eyes", "step", "inches", "flood").contains(w)) {
                    throw new Fault(at, 0);
                }
                boolean bad = clause > 24 || (clause == 1) != w.equals("wide") || w.equals("step") && step
                        || w.equals("inches") && inches || w.equals("flood") && r.floods.size() == 8;
                if (bad) {
                    throw new Fault(at, 4);
                }
                at += w.length();
                if (w.equals("wide")) {
                    r.wide = number(2, 40);
                } else if (w.equals("bank")) {
                    int side = number(0, 1);
                    int line = number(0, 99);
                    r.bank[side] = new int[] {line, number(0, 99)};
                } else if (w.equals("eyes")) {
                    int side = number(0, 1);
                    r.eyes[side] = number(0, 9);
                } else if (w.equals("step")) {
                    r.step = number(1, 20);
                    step = true;
                } else if (w.equals("inches")) {
                    r.inches = number(0, 99);
                    inches = true;
                } else {
                    int day = number(0, 399);
                    r.floods.add(new int[] {day, number(1, 9)});
                }
                if (peek() == -1) {
                    return r;
                }
                if (peek() != ';') {
                    throw new Fault(at, 0);
                }
                at++;
            }
        }

        List<Clause> rule() {
            List<Clause> list = new ArrayList<>();
            while (true) {
                String w = peekWord();
                if (!List.of("turn", "rise", "wait", "pull").contains(w)) {
                    throw new Fault(at, 0);
                }
                if (list.size() == 12) {
                    throw new Fault(at, 4);
                }
                at += w.length();
                Clause c = new Clause();
                c.kind = w;
                if (w.equals("turn") || w.equals("rise")) {
                    c.sum = sum();
                    c.test = word("if") ? test(0) : v -> true;
                } else {
                    c.test = test(0);
                }
                list.add(c);
                if (peek() == -1) {
                    return list;
                }
                if (peek() != ';') {
                    throw new Fault(at, 0);
                }
                at++;
            }
        }

        Predicate<View> test(int deep) {
            Predicate<View> p = part(deep);
            while (word("or")) {
                p = p.or(part(deep));
            }
            return p;
        }

        Predicate<View> part(int deep) {
            Predicate<View> p = fact(deep);
            while (word("and")) {
                p = p.and(fact(deep));
            }
            return p;
        }

        Predicate<View> fact(int deep) {
            boolean not = peekWord().equals("not");
            if (not || peek() == '[') {
                if (deep == 10) {
                    throw new Fault(at, 2);
                }
                at += not ? 3 : 1;
                if (not) {
                    return fact(deep + 1).negate();
                }
                Predicate<View> inner = test(deep + 1);
                if (peek() != ']') {
                    throw new Fault(at, 0);
                }
                at++;
                return inner;
            }
            ToLongFunction<View> a = sum();
            int sign = peek();
            if (sign != '<' && sign != '=' && sign != '>') {
                throw new Fault(at, 0);
            }
            item(at);
            at++;
            boolean orEqual = sign != '=' && at < bytes.length && bytes[at] == '=';
            at += orEqual ? 1 : 0;
            ToLongFunction<View> b = sum();
            return v -> {
                long p = a.applyAsLong(v), q = b.applyAsLong(v);
                return p == q ? sign == '=' || orEqual : sign == '<' ? p < q : sign == '>' && p > q;
            };
        }

        void item(int place) {
            if (++items > 60) {
                throw new Fault(place, 3);
            }
        }

        ToLongFunction<View> sum() {
            ToLongFunction<View> s = term();
            while (peek() == '+' || peek() == '-') {
                boolean plus = bytes[at++] == '+';
                ToLongFunction<View> a = s, b = term();
                s = v -> plus ? a.applyAsLong(v) + b.applyAsLong(v) : a.applyAsLong(v) - b.applyAsLong(v);
            }
            return s;
        }

        ToLongFunction<View> term() {
            ToLongFunction<View> s = value();
            while (peek() == '*' || peek() == '/') {
                boolean times = bytes[at++] == '*';
                ToLongFunction<View> a = s, b = value();
                s = v -> {
                    long p = a.applyAsLong(v), q = b.applyAsLong(v);
                    return times ? p * q : q == 0 ? 0 : p / q;
                };
            }
            return s;
        }

        ToLongFunction<View> value() {
            String w = peekWord();
            if (w.isEmpty()) {
                int n = digits();
                item(at);
                skipDigits();
                return v -> n;
            }
            ToLongFunction<View> f = switch (w) {
                case "side" -> v -> v.side;
                case "line" -> v -> v.line;
                case "height" -> v -> v.height;
                case "other" -> v -> v.other;
                case "tall" -> v -> v.tall;
                case "gap" -> v -> v.gap;
                case "day" -> v -> v.day;
                case "yards" -> v -> v.yards;
                case "last" -> v -> v.last;
                default -> throw new Fault(at, 0);
            };
            item(at);
            at += w.length();
            return f;
        }
    }

    // ---- states

    int gap(State s) {
        return river == null ? 0 : river.wide - s.yards.get(0).size() - s.yards.get(1).size();
    }

    int[] ahead(State s, int side, int yard) {
        return yard == 0 ? river.bank[side] : s.yards.get(side).get(yard - 1);
    }

    int[] tip(State s, int side) {
        return ahead(s, side, s.yards.get(side).size());
    }

    int crooked(State s, int side) {
        int sum = 0;
        for (int i = 0; i < s.yards.get(side).size(); i++) {
            for (int j = 0; j < 2; j++) {
                sum += Math.abs(ahead(s, side, i + 1)[j] - ahead(s, side, i)[j]);
            }
        }
        return sum;
    }

    int missed(State s, int j) {
        return Math.abs(tip(s, 0)[j] - tip(s, 1)[j]);
    }

    boolean inTime(State s) {
        return gap(s) == 0 && missed(s, 0) <= river.inches && missed(s, 1) <= river.inches;
    }

    int seen(State s, int side, int error, int j) {
        int e = j == 0 ? error : -error;
        return tip(s, 1 - side)[j] + e * river.eyes[side] * gap(s) / 90;
    }

    /** What a SIDE means to do: null for waiting, an empty row for pulling down, TURN and RISE for a YARD. */
    int[] mind(State s, int side, int rule, int error) {
        if (rule == -1) {
            return new int[2];
        }
        View v = new View();
        v.side = side;
        v.line = tip(s, side)[0];
        v.height = tip(s, side)[1];
        v.other = seen(s, side, error, 0);
        v.tall = seen(s, side, error, 1);
        v.gap = gap(s);
        v.day = s.day;
        v.yards = s.yards.get(side).size();
        v.last = v.yards == 0 ? 0 : tip(s, side)[0] - ahead(s, side, (int) v.yards - 1)[0];
        List<Clause> clauses = rules.get(rule);
        if (clauses.stream().anyMatch(c -> c.kind.equals("pull") && c.test.test(v))) {
            return new int[0];
        }
        if (clauses.stream().anyMatch(c -> c.kind.equals("wait") && c.test.test(v))) {
            return null;
        }
        int[] yard = new int[2];
        for (int j = 0; j < 2; j++) {
            String kind = j == 0 ? "turn" : "rise";
            long n = clauses.stream().filter(c -> c.kind.equals(kind) && c.test.test(v))
                    .mapToLong(c -> c.sum.applyAsLong(v)).findFirst().orElse(0);
            yard[j] = n > river.step ? river.step : n < -river.step ? -river.step : (int) n;
        }
        return yard;
    }

    boolean make(State s, int side, int[] mind) {
        List<int[]> yards = s.yards.get(side);
        if (mind != null && mind.length == 0) {
            cut(s, side, 1);
        } else if (mind != null && gap(s) > 0) {
            int[] tip = tip(s, side);
            yards.add(new int[] {tip[0] + mind[0], tip[1] + mind[1]});
            return true;
        }
        return false;
    }

    void cut(State s, int side, int n) {
        List<int[]> yards = s.yards.get(side);
        for (int i = 0; i < n && !yards.isEmpty(); i++) {
            yards.remove(yards.size() - 1);
        }
    }

    void night(State s) {
        for (int[] f : river.floods) {
            if (f[0] == s.day) {
                cut(s, 0, f[1]);
                cut(s, 1, f[1]);
            }
        }
        s.day++;
    }

    /** The ERROR of a SIDE on a day, as one looks it up. */
    int told(int side, int day) {
        return errors[side][day % 8];
    }

    void day(State s, int left, int right, IntBinaryOperator error) {
        if (gap(s) == 0) {
            return;
        }
        int[] a = mind(s, 0, left, error.applyAsInt(0, s.day));
        int[] b = mind(s, 1, right, error.applyAsInt(1, s.day));
        make(s, 0, a);
        make(s, 1, b);
        night(s);
    }

    State after(int left, int right, int n, IntBinaryOperator error) {
        State s = state.copy();
        for (int i = 0; i < n && gap(s) > 0; i++) {
            day(s, left, right, error);
        }
        return s;
    }

    // ---- calls

    boolean in(int n, int a, int b) {
        return n >= a && n <= b;
    }

    boolean ruled(int... list) {
        for (int r : list) {
            if (r < -1 || r >= rules.size()) {
                return false;
            }
        }
        return river != null;
    }

    int feed(int... numbers) {
        if (tape.size() > 380) {
            return -1;
        }
        for (int n : numbers) {
            for (int i = 3; i >= 0; i--) {
                tape.add(n >>> 8 * i & 255);
            }
        }
        return tape.size();
    }

    int end(int n) {
        if (!in(n, 0, tape.size())) {
            return -1;
        }
        while (tape.size() > n) {
            tape.remove(tape.size() - 1);
        }
        return n;
    }

    int river() {
        try {
            River r = new Text().river();
            river = r;
            state = new State();
            errors = new int[2][8];
            ruins = new Integer[2][40];
            return r.wide;
        } catch (Fault f) {
            return -2 - f.number;
        } finally {
            tape.clear();
        }
    }

    int rule() {
        if (rules.size() == 6) {
            return -1;
        }
        try {
            rules.add(new Text().rule());
            return rules.size() - 1;
        } catch (Fault f) {
            return -2 - f.number;
        } finally {
            tape.clear();
        }
    }

    int yard(int side, int yard, int what) {
        if (!in(side, 0, 1) || !in(what, 0, 3) || yard < 0 || yard >= state.yards.get(side).size()) {
            return -100000;
        }
        int here = ahead(state, side, yard + 1)[what % 2];
        return what < 2 ? here : here - ahead(state, side, yard)[what % 2];
    }

    int tip(int side, int what) {
        if (river == null || !in(side, 0, 1) || !in(what, 0, 6)) {
            return -100000;
        }
        return new int[] {state.yards.get(side).size(), tip(state, side)[0], tip(state, side)[1], crooked(state, side),
            seen(state, side, told(side, state.day), 0), seen(state, side, told(side, state.day), 1),
            river.eyes[side]}[what];
    }

    int err(int side, int place, int n) {
        if (river == null || !in(side, 0, 1) || !in(place, 0, 7) || !in(n, -9, 9)) {
            return -100000;
        }
        int was = errors[side][place];
        errors[side][place] = n;
        return was;
    }

    boolean build(int side, int turn, int rise) {
        return river != null && in(side, 0, 1) && in(turn, -river.step, river.step) && in(rise, -river.step, river.step)
                && make(state, side, new int[] {turn, rise});
    }

    boolean pull(int side) {
        if (!in(side, 0, 1) || state.yards.get(side).isEmpty()) {
            return false;
        }
        cut(state, side, 1);
        return true;
    }

    int spring(int left, int right, int n) {
        if (!ruled(left, right) || !in(n, 1, 200) || state.day + n > 9999) {
            return -1;
        }
        state = after(left, right, n, this::told);
        return state.day;
    }

    int miss(int what) {
        if (river == null || !in(what, 0, 3)) {
            return -1;
        }
        return what < 2 ? missed(state, what) : (what == 2 ? gap(state) == 0 : inTime(state)) ? 1 : 0;
    }

    int ahead(int left, int right, int n, int what) {
        if (!ruled(left, right) || !in(n, 0, 400) || !in(what, 0, 5)) {
            return -1;
        }
        State s = after(left, right, n, this::told);
        return new int[] {gap(s) == 0 ? s.day : -2, missed(s, 0), missed(s, 1), crooked(s, 0), crooked(s, 1),
            inTime(s) ? 1 : 0}[what];
    }

    int zigzag(int left, int right, int what) {
        if (!ruled(left, right) || !in(what, 0, 1)) {
            return -1;
        }
        State s = state.copy();
        List<String> all = new ArrayList<>();
        for (int i = 0; i <= 300; i++) {
            all.add(s.text());
            if (gap(s) > 0) {
                int[] a = mind(s, 0, left, told(0, state.day));
                int[] b = mind(s, 1, right, told(1, state.day));
                make(s, 0, a);
                make(s, 1, b);
            }
        }
        for (int i = 0; i <= 300; i++) {
            for (int j = i + 1; j <= 300; j++) {
                if (all.get(i).equals(all.get(j))) {
                    return what == 0 ? i : j - i;
                }
            }
        }
        return -2;
    }

    int whatever(int left, int right, int n, int side, int k, int times) {
        if (!ruled(left, right) || !in(n, 0, 60) || !in(side, 0, 1) || !in(k, 0, 3) || !in(times, 1, 9)) {
            return -1;
        }
        int sum = 0;
        int rows = (int) Math.pow(3, k);
        for (int row = 0; row < rows; row++) {
            String digits = Integer.toString(row + 27, 3);
            String r = digits.substring(digits.length() - 3);
            int begin = state.day;
            State s = after(left, right, n, (who, day) -> who == side && day - begin < k
                    ? (r.charAt(2 - (day - begin)) - '1') * times : told(who, day));
            sum += inTime(s) ? 1 : 0;
        }
        return sum;
    }

    private int[] best;
    private int bestWorth;

    /** Goes through every row of so many TURNS, from the least on, whether it ends earlier or not. */
    private void rows(int side, int rule, int days, int c, boolean spite) {
        best = null;
        int reach = Math.min(2, river.step);
        int base = 2 * reach + 1;
        int all = (int) Math.round(Math.pow(base, days));
        for (int code = 0; code < all; code++) {
            int[] row = new int[days];
            for (int i = days - 1, rest = code; i >= 0; i--, rest /= base) {
                row[i] = rest % base - reach;
            }
            State s = state.copy();
            int spent = 0;
            for (int i = 0; i < days; i++) {
                if (gap(s) == 0) {
                    row[i] = -100;
                    continue;
                }
                int[] mind = mind(s, 1 - side, rule, told(1 - side, s.day));
                if (side == 1) {
                    make(s, 0, mind);
                }
                if (make(s, side, new int[] {row[i], 0})) {
                    spent += Math.abs(row[i]);
                } else {
                    row[i] = -100;
                }
                if (side == 0) {
                    make(s, 1, mind);
                }
                night(s);
            }
            int worth = spite ? -crooked(s, 1 - side) : spent;
            if ((spite ? spent <= c : inTime(s)) && (best == null || worth < bestWorth)) {
                best = row;
                bestWorth = worth;
            }
        }
    }

    int straight(int side, int rule, int what) {
        if (!ruled(rule) || !in(side, 0, 1) || !in(what, 0, 6) || gap(state) == 0) {
            return -100000;
        }
        rows(side, rule, 6, 0, false);
        return best == null ? -2 : what == 0 ? bestWorth : best[what - 1];
    }

    int spite(int side, int rule, int c, int what) {
        if (!ruled(rule) || !in(side, 0, 1) || !in(what, 0, 4) || !in(c, 0, 8) || gap(state) == 0) {
            return -100000;
        }
        rows(side, rule, 4, c, true);
        return what == 0 ? -bestWorth : best[what - 1];
    }

    int mend(int what) {
        if (river == null || !in(what, 0, 1)) {
            return -1;
        }
        int[] found = null;
        for (int a = 0; a <= state.yards.get(0).size(); a++) {
            for (int b = 0; b <= state.yards.get(1).size(); b++) {
                State s = state.copy();
                cut(s, 0, a);
                cut(s, 1, b);
                int reach = river.step * (gap(s) + 1);
                if (missed(s, 0) <= reach && missed(s, 1) <= reach && (found == null || a + b < found[0] + found[1])) {
                    found = new int[] {a, b};
                }
            }
        }
        return found == null ? -2 : found[what];
    }

    boolean ruin(int side, int place, int line) {
        if (river == null || !in(side, 0, 1) || place != -1 && !(in(place, 0, 39) && in(line, -9999, 9999))) {
            return false;
        }
        if (place == -1) {
            ruins = new Integer[2][40];
        } else {
            ruins[side][place] = line;
        }
        return true;
    }

    int erred(int left, int right, int n, int e, int what) {
        if (!ruled(left, right) || !in(n, 1, 4) || !in(e, 1, 9) || !in(what, 0, 2 * n)) {
            return -1;
        }
        int rows = 0, hits = 0;
        int begin = state.day;
        for (int code = 0; code < Math.round(Math.pow(9, n)); code++) {
            int[] row = new int[2 * n];
            for (int i = 0, rest = code; i < 2 * n; i++, rest /= 3) {
                row[i] = (rest % 3 - 1) * e;
            }
            State s = after(left, right, n, (side, day) -> row[2 * (day - begin) + side]);
            boolean so = true;
            for (int side = 0; side < 2; side++) {
                for (int i = 0; i < 40; i++) {
                    if (ruins[side][i] != null) {
                        so &= i < s.yards.get(side).size() && s.yards.get(side).get(i)[0] == ruins[side][i];
                    }
                }
            }
            if (so) {
                rows++;
                hits += what > 0 && row[what - 1] != 0 ? 1 : 0;
            }
        }
        return what == 0 ? rows : hits == 0 ? 0 : hits == rows ? 2 : 1;
    }

    int seed(int n) {
        if (n < 0) {
            return -1;
        }
        int was = (int) x;
        x = n;
        return was;
    }

    int tried(int left, int right, int m, int n, int odds, int what) {
        if (!ruled(left, right) || !in(m, 1, 20) || !in(n, 1, 200) || !in(odds, 0, 100) || !in(what, 0, 1)) {
            return -1;
        }
        long y = x;
        int times = 0, yards = 0;
        for (int i = 0; i < m; i++) {
            State s = state.copy();
            for (int d = 0; d < n && gap(s) > 0; d++) {
                day(s, left, right, this::told);
                y = (y * 1103515245L + 12345L) % 2147483648L;
                if (y / 65536 % 100 < odds) {
                    cut(s, 0, 1);
                    cut(s, 1, 1);
                }
            }
            times += inTime(s) ? 1 : 0;
            yards += river.wide - gap(s);
        }
        return what == 0 ? times : yards;
    }

    int leap(int year) {
        return !in(year, 1, 9999) ? -1 : java.time.Year.isLeap(year) ? 1 : 0;
    }

    int count(int what) {
        boolean no = river == null;
        int told = 0;
        for (Integer[] side : ruins) {
            for (Integer line : side) {
                told += line == null ? 0 : 1;
            }
        }
        return switch (what) {
            case 0 -> no ? 0 : river.wide;
            case 1 -> gap(state);
            case 2 -> state.day;
            case 3 -> rules.size();
            case 4 -> no ? 0 : river.floods.size();
            case 5 -> no ? 0 : river.step;
            case 6 -> no ? 0 : river.inches;
            case 7 -> told;
            case 8 -> (int) x;
            case 9 -> tape.size();
            default -> -1;
        };
    }

    private static int[][] copied(int[][] rows) {
        return new int[][] {rows[0].clone(), rows[1].clone()};
    }

    int image(int k) {
        if (!in(k, 0, 3)) {
            return -1;
        }
        Image i = new Image();
        i.river = river;
        i.state = state.copy();
        i.errors = copied(errors);
        i.ruins = new Integer[][] {ruins[0].clone(), ruins[1].clone()};
        i.x = x;
        images[k] = i;
        return state.day;
    }

    int back(int k) {
        if (!in(k, 0, 3) || images[k] == null) {
            return -1;
        }
        Image i = images[k];
        river = i.river;
        state = i.state.copy();
        errors = copied(i.errors);
        ruins = new Integer[][] {i.ruins[0].clone(), i.ruins[1].clone()};
        x = i.x;
        return state.day;
    }
}
