import java.nio.charset.StandardCharsets;

/** What all tests share: counting wrong answers, and putting a text on the TAPE. */
final class TestKit {
    /** A call with all but one of its arguments settled. */
    interface Ask {
        long by(int value);
    }

    private static final int SHOWN_AT_MOST = 40;
    private static int wrong = 0;
    private static int asked = 0;

    private TestKit() {
    }

    static void due(String call, long got, long want) {
        asked++;
        if (got != want) {
            wrong++;
            if (wrong <= SHOWN_AT_MOST) {
                System.out.println(call + " answered " + got + ", due is " + want);
            }
        }
    }

    static void dueText(String call, String got, String want) {
        asked++;
        if (!got.equals(want)) {
            wrong++;
            if (wrong <= SHOWN_AT_MOST) {
                System.out.println(call + " answered " + got + ", due is " + want);
            }
        }
    }

    /**
     * The last values that are allowed and the first that are not, on both sides; numbers that an
     * int or a shift would take for allowed ones when it wraps around; and the ends of int.
     */
    static void edges(String call, int low, long atLow, int high, long atHigh, long refused, Ask ask) {
        due(call + ", the least: " + low, ask.by(low), atLow);
        due(call + ", the greatest: " + high, ask.by(high), atHigh);
        refusedAround(call, low, high, refused, ask);
    }

    static void refusedAround(String call, int low, int high, long refused, Ask ask) {
        int[] others = {low - 1, high + 1, low - 2, high + 2, low + 32, low - 32, low + 64, low + 256, low - 256, low + 65536,
                low - 65536, low + (1 << 28), low + (1 << 30), low + (1 << 31), high + (1 << 31), -high, ~low, ~high,
                Integer.MIN_VALUE, Integer.MIN_VALUE + 1, Integer.MAX_VALUE, Integer.MAX_VALUE - 1};
        for (int value : others) {
            if (value < low || value > high) {
                due(call + ", not " + value, ask.by(value), refused);
            }
        }
    }

    static void finish() {
        System.out.println(wrong == 0 ? asked + " answers are as due" : wrong + " of " + asked + " answers are not as due");
        if (wrong != 0) {
            System.exit(1);
        }
    }

    /** How many bytes the TAPE has behind a text() with a FAULT: "all stays" is taken to mean the TAPE, too (NOTES.md). */
    static int tapeBehindFault(int size) {
        return size;
    }

    /** Puts a text on an empty TAPE. */
    static void feed(OneWays x, String text) {
        byte[] bytes = text.getBytes(StandardCharsets.ISO_8859_1);
        for (int at = 0; at < bytes.length; at += 20) {
            x.feed(four(bytes, at), four(bytes, at + 4), four(bytes, at + 8), four(bytes, at + 12), four(bytes, at + 16));
        }
        x.end(bytes.length);
    }

    private static int four(byte[] bytes, int at) {
        int number = 0;
        for (int i = at; i < at + 4; i++) {
            number = number << 8 | (i < bytes.length ? bytes[i] & 255 : 0);
        }
        return number;
    }

    /** text() of a text that is the whole TAPE. */
    static int tell(OneWays x, String text) {
        x.end(0);
        feed(x, text);
        return x.text();
    }

    static OneWays town(String text) {
        OneWays x = new OneWays();
        int lines = tell(x, text);
        if (lines < 0) {
            due("text() of " + text, lines, 0);
        }
        return x;
    }
}
