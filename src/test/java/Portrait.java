/**
 * All that calls show of an object, a line a call: two objects with the same portrait are alike. The object is spent
 * behind it, as what can't be seen otherwise (ERRORS, the TAPE, IMAGES) is seen by changing it. Some 400 calls.
 */
final class Portrait {
    private final HalfBridge x;
    private final StringBuilder text = new StringBuilder();

    private Portrait(HalfBridge x) {
        this.x = x;
    }

    static String of(HalfBridge x) {
        Portrait p = new Portrait(x);
        p.stands();
        p.yards();
        p.asked();
        p.rules();
        p.errors();
        p.tape();
        for (int k = 0; k < 4; k++) {
            p.put("back(" + k + ")", x.back(k));
            p.stands();
            p.errors();
        }
        return p.text.toString();
    }

    private void put(String call, int answer) {
        text.append(call).append(" = ").append(answer).append('\n');
    }

    private void stands() {
        for (int what = 0; what <= 9; what++) {
            put("count(" + what + ")", x.count(what));
        }
        for (int i = 0; i < 14; i++) {
            put("tip(" + i / 7 + ", " + i % 7 + ")", x.tip(i / 7, i % 7));
        }
        put("erred(-1, -1, 1, 1, 0)", x.erred(-1, -1, 1, 1, 0));
    }

    private void yards() {
        for (int side = 0; side < 2; side++) {
            for (int i = 0; i <= Math.max(0, x.tip(side, 0)); i++) {
                for (int what = 0; what < 4; what++) {
                    put("yard(" + side + ", " + i + ", " + what + ")", x.yard(side, i, what));
                }
            }
        }
    }

    private void asked() {
        for (int what = 0; what < 4; what++) {
            put("miss(" + what + ")", x.miss(what));
        }
        for (int what = 0; what < 2; what++) {
            put("mend(" + what + ")", x.mend(what));
            put("zigzag(0, 1, " + what + ")", x.zigzag(0, 1, what));
            put("tried(0, 1, 9, 30, 20, " + what + ")", x.tried(0, 1, 9, 30, 20, what));
        }
        put("whatever(0, 1, 30, 0, 2, 9)", x.whatever(0, 1, 30, 0, 2, 9));
        for (int what = 0; what < 5; what++) {
            put("straight(0, 1, " + what + ")", x.straight(0, 1, what));
            put("spite(1, 0, 5, " + what + ")", x.spite(1, 0, 5, what));
            put("erred(0, 1, 2, 9, " + what + ")", x.erred(0, 1, 2, 9, what));
        }
    }

    private void rules() {
        for (int rule = -1; rule < 6; rule++) {
            for (int what = 0; what < 6; what++) {
                put("ahead(" + rule + ", " + rule + ", 12, " + what + ")", x.ahead(rule, rule, 12, what));
            }
        }
    }

    private void errors() {
        for (int i = 0; i < 16; i++) {
            put("err(" + i / 8 + ", " + i % 8 + ", 0)", x.err(i / 8, i % 8, 0));
        }
    }

    /** As a RULE, or, if there are six, as a RIVER. */
    private void tape() {
        int number = x.rule();
        put("rule()", number);
        if (number == -1) {
            put("river()", x.river());
            return;
        }
        for (int what = 0; what < 6; what++) {
            put("ahead(" + number + ", -1, 2, " + what + ")", x.ahead(number, -1, 2, what));
        }
    }
}
