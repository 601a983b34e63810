import java.nio.charset.StandardCharsets;

/** Texts put on a TAPE, twenty bytes a call. */
final class Told {
    private Told() {
    }

    /** The numbers that a call of feed takes, of the text from a place on; bytes behind its end are 0. */
    static int[] numbers(byte[] text, int from) {
        int[] numbers = new int[5];
        for (int i = 0; i < 20; i++) {
            int b = from + i < text.length ? text[from + i] & 255 : 0;
            numbers[i / 4] = numbers[i / 4] << 8 | b;
        }
        return numbers;
    }

    static byte[] bytes(String text) {
        return text.getBytes(StandardCharsets.ISO_8859_1);
    }

    static void tape(HalfBridge x, String text) {
        byte[] bytes = bytes(text);
        for (int from = 0; from < bytes.length; from += 20) {
            int[] n = numbers(bytes, from);
            x.feed(n[0], n[1], n[2], n[3], n[4]);
        }
        x.end(bytes.length);
    }

    static int river(HalfBridge x, String text) {
        tape(x, text);
        return x.river();
    }

    static int rule(HalfBridge x, String text) {
        tape(x, text);
        return x.rule();
    }

    /** A new object with a RIVER and RULES, all of which must stand. */
    static HalfBridge at(Check check, String river, String... rules) {
        HalfBridge x = new HalfBridge();
        check.is("river '" + river + "' stands", river(x, river) > 0, true);
        for (String rule : rules) {
            check.is("rule '" + rule + "' stands", rule(x, rule) >= 0, true);
        }
        return x;
    }
}
