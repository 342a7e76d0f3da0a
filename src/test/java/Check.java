import java.nio.charset.StandardCharsets;
import java.util.Arrays;

/** What all tests of the project share: counting wrong answers, and telling texts to a clock. */
final class Check {
    static final long LAST_TIME = 10413791999999L;
    static final String BERLIN = "+60 60 M3.5.0/120 M10.5.0/180";
    static final String NEW_YORK = "-300 60 M3.2.0/120 M11.1.0/120";
    static final String LORD_HOWE = "+630 30 M10.1.0/120 M4.1.0/120";

    private static int right = 0;
    private static int wrong = 0;

    private Check() {
    }

    interface Call {
        Object answer();
    }

    /** The call's answer, or the name of what it throws, must be the one that is due. */
    static void due(Object want, String name, Call call) {
        String got = answerOf(call);
        if (got.equals(String.valueOf(want))) {
            right++;
        } else {
            wrong++;
            System.out.println(name + " answered " + got + ", due is " + want);
        }
    }

    static void dueArgument(String name, Call call) {
        due("IllegalArgumentException", name, call);
    }

    static String answerOf(Call call) {
        try {
            return String.valueOf(call.answer());
        } catch (RuntimeException e) {
            return e.getClass().getSimpleName();
        }
    }

    /** Feeds the bytes, filled up to a multiple of 20, and cuts the tape behind them. */
    static void tell(ZoneClock clock, byte[] text) {
        byte[] filled = Arrays.copyOf(text, (text.length + 19) / 20 * 20);
        for (int i = 0; i < filled.length; i += 20) {
            clock.feed(intAt(filled, i), intAt(filled, i + 4), intAt(filled, i + 8),
                    intAt(filled, i + 12), intAt(filled, i + 16));
        }
        clock.end(text.length);
    }

    static void tell(ZoneClock clock, String text) {
        tell(clock, text.getBytes(StandardCharsets.ISO_8859_1));
    }

    /** zone has no answer: here it is "told" if it throws nothing. */
    static String zone(ZoneClock clock, int z) {
        clock.zone(z);
        return "told";
    }

    static ZoneClock clockWith(int z, String text) {
        ZoneClock clock = new ZoneClock();
        tell(clock, text);
        due("told", "zone of " + text, () -> zone(clock, z));
        return clock;
    }

    static void done() {
        System.out.println(right + " answers as due, " + wrong + " wrong");
        if (wrong > 0 || right == 0) {
            System.exit(1);
        }
    }

    private static int intAt(byte[] bytes, int i) {
        return (bytes[i] & 255) << 24 | (bytes[i + 1] & 255) << 16
                | (bytes[i + 2] & 255) << 8 | bytes[i + 3] & 255;
    }
}
