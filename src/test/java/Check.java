import java.nio.charset.StandardCharsets;
import java.time.LocalDateTime;
import java.time.ZoneOffset;
import java.util.Arrays;

/** What all tests of the project share: counting wrong answers, and telling texts to a clock. */
final class Check {
    static final long LAST_TIME = 10413791999999L;
    static final long MINUTE = 60000L;
    static final long HOUR = 3600000L;
    static final String BERLIN = "+60 60 M3.5.0/120 M10.5.0/180";
    static final String NEW_YORK = "-300 60 M3.2.0/120 M11.1.0/120";
    static final String LORD_HOWE = "+630 30 M10.1.0/120 M4.1.0/120";
    static final String REFUSED = "IllegalArgumentException";
    static final String BROKEN = "UnsupportedOperationException";
    static final String TOO_LONG = "IndexOutOfBoundsException";
    static final String NO_TIME = "NoSuchElementException";

    private static final int[] NO_ZONES = {-1, 8, Integer.MIN_VALUE, Integer.MAX_VALUE, 256};
    private static final long[] NO_TIMES = {-1L, LAST_TIME + 1, Long.MIN_VALUE, Long.MAX_VALUE, 1L << 60};

    private static int right = 0;
    private static int wrong = 0;

    private Check() {
    }

    interface Call {
        Object answer();
    }

    interface Act {
        Object on(ZoneClock clock);
    }

    interface ZoneAct {
        Object on(ZoneClock clock, int z, long t);
    }

    /** The call's answer, or the name of what it throws, must be the one that is due. */
    static void due(Object want, String name, Call call) {
        String got = answerOf(call);
        if (got.equals(String.valueOf(want))) {
            right++;
        } else {
            wrong++;
            System.out.println(name + " answered " + got + ", due is " + want);
        }
    }

    static void dueRefused(String name, Call call) {
        due(REFUSED, name, call);
    }

    static String answerOf(Call call) {
        try {
            return String.valueOf(call.answer());
        } catch (RuntimeException e) {
            return e.getClass().getSimpleName();
        }
    }

    /** Every zone and every time out of range, alone and both at once, is refused, and nothing changes. */
    static void dueRefusedOutOfRange(String name, ZoneAct act) {
        for (int z : NO_ZONES) {
            Witness.dueRefused(REFUSED, name + " of zone " + z, clock -> act.on(clock, z, 0L));
        }
        for (long t : NO_TIMES) {
            Witness.dueRefused(REFUSED, name + " at " + t, clock -> act.on(clock, 1, t));
        }
        Witness.dueRefused(REFUSED, name + " of zone 8 at -1", clock -> act.on(clock, 8, -1L));
    }

    /** Feeds the bytes, filled up to a multiple of 20, and cuts the tape behind them. */
    static void tell(ZoneClock clock, byte[] text) {
        byte[] filled = Arrays.copyOf(text, (text.length + 19) / 20 * 20);
        for (int i = 0; i < filled.length; i += 20) {
            clock.feed(intAt(filled, i), intAt(filled, i + 4), intAt(filled, i + 8),
                    intAt(filled, i + 12), intAt(filled, i + 16));
        }
        clock.end(text.length);
    }

    static void tell(ZoneClock clock, String text) {
        tell(clock, text.getBytes(StandardCharsets.ISO_8859_1));
    }

    /** zone has no answer: here it is "told" if it throws nothing. */
    static String zone(ZoneClock clock, int z) {
        clock.zone(z);
        return "told";
    }

    static void tellZone(ZoneClock clock, int z, String text) {
        tell(clock, text);
        due("told", "zone of '" + text + "'", () -> zone(clock, z));
    }

    static ZoneClock clockWith(int z, String text) {
        ZoneClock clock = new ZoneClock();
        tellZone(clock, z, text);
        return clock;
    }

    static void dueNone(ZoneClock clock, int z, long local) {
        due(0, "many of " + local, () -> clock.many(z, local));
        due(NO_TIME, "first of " + local, () -> clock.universal(z, local, false));
        due(NO_TIME, "last of " + local, () -> clock.universal(z, local, true));
    }

    static void dueOnce(ZoneClock clock, int z, long local, long t) {
        due(1, "many of " + local, () -> clock.many(z, local));
        due(t, "first of " + local, () -> clock.universal(z, local, false));
        due(t, "last of " + local, () -> clock.universal(z, local, true));
    }

    static void dueTwice(ZoneClock clock, int z, long local, long first, long last) {
        due(2, "many of " + local, () -> clock.many(z, local));
        due(first, "first of " + local, () -> clock.universal(z, local, false));
        due(last, "last of " + local, () -> clock.universal(z, local, true));
    }

    static long at(int year, int month, int day, int hour, int minute) {
        return LocalDateTime.of(year, month, day, hour, minute).toEpochSecond(ZoneOffset.UTC) * 1000;
    }

    static void done() {
        System.out.println(right + " answers as due, " + wrong + " wrong");
        if (wrong > 0 || right == 0) {
            System.exit(1);
        }
    }

    private static int intAt(byte[] bytes, int i) {
        return (bytes[i] & 255) << 24 | (bytes[i + 1] & 255) << 16
                | (bytes[i + 2] & 255) << 8 | bytes[i + 3] & 255;
    }
}
