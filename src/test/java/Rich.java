import java.util.function.Supplier;
import java.util.function.ToIntFunction;

/** Objects that have all there is, by the same calls each time: two are alike but for what a test does to one of them. */
final class Rich {
    static final String TAPE = "turn 2;rise 1";

    private final Check check;
    private final Supplier<HalfBridge> made;
    private final String untouched;

    /** Of objects that are made so. */
    Rich(Check check, Supplier<HalfBridge> made) {
        this.check = check;
        this.made = made;
        untouched = Portrait.of(made.get());
    }

    /** A RIVER with all its CLAUSES, two RULES, YARDS, ERRORS, RUINS, x, three IMAGES, a text on the TAPE; not MET. */
    static HalfBridge told() {
        HalfBridge x = bare();
        x.end(0);
        Told.river(x, "wide 12;bank 0 3 1;bank 1 5 2;eyes 0 9;eyes 1 7;step 3;inches 2;flood 4 1;flood 9 2");
        x.err(0, 1, 9);
        x.err(0, 3, -7);
        x.err(1, 2, 8);
        x.err(1, 7, -9);
        x.spring(0, 1, 1);
        x.image(1);
        x.build(0, 1, -1);
        x.build(1, -2, 1);
        x.ruin(0, 1, x.yard(0, 1, 0));
        x.ruin(1, 0, x.yard(1, 0, 0));
        x.seed(20202);
        x.image(3);
        x.build(1, 3, 0);
        Told.tape(x, TAPE);
        return x;
    }

    /** No RIVER, but RULES, x, an IMAGE and a text on the TAPE. */
    static HalfBridge bare() {
        HalfBridge x = new HalfBridge();
        Told.rule(x, "turn other - line;rise tall - height");
        Told.rule(x, "pull yards > 3;wait day = 2;turn 1");
        x.seed(10101);
        x.image(0);
        Told.tape(x, TAPE);
        return x;
    }

    /** As told, but with nothing on the TAPE. */
    static HalfBridge emptied() {
        HalfBridge x = told();
        x.end(0);
        return x;
    }

    /** As told, but MET. */
    static HalfBridge met() {
        HalfBridge x = told();
        for (int i = 0; i < 12; i++) {
            x.build(i % 2, 1, 0);
        }
        return x;
    }

    /** As told, but with six RULES. */
    static HalfBridge sixRules() {
        HalfBridge x = emptied();
        for (int i = 2; i < 6; i++) {
            Told.rule(x, "turn " + (i - 2));
        }
        Told.tape(x, "wide 7;step 2");
        return x;
    }

    /** Numbers that are not least to most: those beside it first. */
    static int[] beyond(int least, int most) {
        return new int[] {least - 1, most + 1, Integer.MIN_VALUE, Integer.MAX_VALUE};
    }

    /** Numbers of no RULE where there are two, nor NONE. */
    static int[] noRules() {
        return new int[] {-2, 2, 3, 5, 6, 7, Integer.MIN_VALUE, Integer.MAX_VALUE};
    }

    /** A call is answered so, and nothing happens: behind it the object is as one on which it was not called. */
    void refuses(String call, ToIntFunction<HalfBridge> wrong, int due) {
        HalfBridge x = made.get();
        check.is(call, wrong.applyAsInt(x), due);
        check.same(call + " changes nothing", Portrait.of(x), untouched);
    }

    /** A call changes something: a portrait that can't see it would be worth nothing. */
    void changes(String call, ToIntFunction<HalfBridge> right, int due) {
        HalfBridge x = made.get();
        check.is(call, right.applyAsInt(x), due);
        check.is(call + " changes something", Portrait.of(x).equals(untouched), false);
    }
}
