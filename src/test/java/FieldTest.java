/** Promise 9, field, a method for each sentence and edge. */
public final class FieldTest {
    private static final long HOUR = Check.HOUR;
    private static final long SECOND = 1000L;

    public static void main(String[] args) {
        second();
        minute();
        hour();
        day();
        month();
        year();
        weekdayIs1ForSunday();
        minutesFromUniversalToLocal();
        whetherItIsSummer();
        allAreOfTheLocalTime();
        beforeLocal1970();
        behindLocal2299();
        firstAndLastTimeThatMayBe();
        whatIs0To8();
        refusesWhatIsOutOfRangeAndChangesNothing();
        Check.done();
    }

    private static void due(int want, String text, long t, int what) {
        ZoneClock clock = Check.clockWith(1, text);
        Check.due(want, "field " + what + " of '" + text + "' at " + t, () -> clock.field(1, t, what));
    }

    // "what 0 second"
    private static void second() {
        long t = Check.at(2024, 5, 6, 7, 8);
        due(59, "+0", t - 1, 0);
        due(0, "+0", t, 0);
        due(0, "+0", t + SECOND - 1, 0);
        due(1, "+0", t + SECOND, 0);
        due(58, "+0", t + 59 * SECOND - 1, 0);
        due(59, "+0", t + 59 * SECOND, 0);
    }

    // "1 minute"
    private static void minute() {
        long t = Check.at(2024, 5, 6, 7, 0);
        due(59, "+0", t - 1, 1);
        due(0, "+0", t, 1);
        due(0, "+0", t + Check.MINUTE - 1, 1);
        due(1, "+0", t + Check.MINUTE, 1);
        due(59, "+0", t + 59 * Check.MINUTE, 1);
        due(59, "-1", t, 1);
        due(1, "+1", t, 1);
    }

    // "2 hour"
    private static void hour() {
        long t = Check.at(2024, 5, 6, 0, 0);
        due(23, "+0", t - 1, 2);
        due(0, "+0", t, 2);
        due(0, "+0", t + HOUR - 1, 2);
        due(1, "+0", t + HOUR, 2);
        due(12, "+0", t + 12 * HOUR, 2);
        due(13, "+0", t + 13 * HOUR, 2);
        due(23, "+0", t + 23 * HOUR, 2);
        due(14, "+840", t, 2);
        due(10, "-840", t, 2);
    }

    // "3 day"
    private static void day() {
        due(1, "+0", Check.at(2024, 5, 1, 0, 0), 3);
        due(30, "+0", Check.at(2024, 5, 1, 0, 0) - 1, 3);
        due(31, "+0", Check.at(2024, 5, 31, 23, 59), 3);
        due(29, "+0", Check.at(2024, 2, 29, 12, 0), 3);
        due(1, "+0", Check.at(2023, 2, 28, 23, 59) + Check.MINUTE, 3);
        due(7, "+840", Check.at(2024, 5, 6, 10, 0), 3);
        due(5, "-840", Check.at(2024, 5, 6, 13, 59), 3);
    }

    // "4 month"
    private static void month() {
        for (int month = 1; month <= 12; month++) {
            long t = Check.at(2024, month, 1, 0, 0);
            due(month, "+0", t, 4);
            due(month == 1 ? 12 : month - 1, "+0", t - 1, 4);
        }
    }

    // "5 year"
    private static void year() {
        for (int year : new int[] {1971, 1972, 1973, 2000, 2001, 2100, 2101, 2200, 2201, 2299}) {
            long t = Check.at(year, 1, 1, 0, 0);
            due(year, "+0", t, 5);
            due(year - 1, "+0", t - 1, 5);
            due(year - 1, "-1", t, 5);
            due(year, "+1", t - 1, 5);
        }
    }

    // "6 weekday (1 Sunday)"; 5 May 2024 was a Sunday
    private static void weekdayIs1ForSunday() {
        for (int i = 0; i < 7; i++) {
            due(i + 1, "+0", Check.at(2024, 5, 5 + i, 0, 0), 6);
            due(i + 1, "+0", Check.at(2024, 5, 5 + i, 23, 59), 6);
        }
        due(7, "+0", Check.at(2024, 5, 5, 0, 0) - 1, 6);
        due(7, "-1", Check.at(2024, 5, 5, 0, 0), 6);
        due(1, "+1", Check.at(2024, 5, 5, 0, 0) - 1, 6);
    }

    // "7 minutes from universal to LOCAL time"
    private static void minutesFromUniversalToLocal() {
        long summer = Check.at(2024, 7, 1, 0, 0);
        long winter = Check.at(2024, 1, 15, 0, 0);
        due(0, "-0", winter, 7);
        due(840, "+840", winter, 7);
        due(-840, "-840", winter, 7);
        due(60, Check.BERLIN, winter, 7);
        due(120, Check.BERLIN, summer, 7);
        due(-300, Check.NEW_YORK, winter, 7);
        due(-240, Check.NEW_YORK, summer, 7);
        due(660, Check.LORD_HOWE, winter, 7);
        due(630, Check.LORD_HOWE, summer, 7);
        due(960, "+840 120 M3.1.0/0 M9.1.0/0", summer, 7);
        due(-720, "-840 120 M3.1.0/0 M9.1.0/0", summer, 7);
        due(0, "-60 60 M3.1.0/0 M9.1.0/0", summer, 7);
    }

    // "8 whether it is SUMMER (1, 0)"
    private static void whetherItIsSummer() {
        long begin = Check.at(2024, 3, 31, 1, 0);
        long end = Check.at(2024, 10, 27, 1, 0);
        due(0, Check.BERLIN, begin - 1, 8);
        due(1, Check.BERLIN, begin, 8);
        due(1, Check.BERLIN, end - 1, 8);
        due(0, Check.BERLIN, end, 8);
        due(0, "+60", begin, 8);
        due(1, Check.LORD_HOWE, begin, 8);
    }

    private static void dueAll(String text, long t, int... fields) {
        for (int what = 0; what < fields.length; what++) {
            due(fields[what], text, t, what);
        }
    }

    // "of the LOCAL time at t"
    private static void allAreOfTheLocalTime() {
        dueAll(Check.BERLIN, Check.at(2024, 2, 28, 23, 1) + 7999, 7, 1, 0, 29, 2, 2024, 5, 60, 0);
        dueAll(Check.BERLIN, Check.at(2024, 6, 30, 22, 59) + 59999, 59, 59, 0, 1, 7, 2024, 2, 120, 1);
        dueAll(Check.BERLIN, Check.at(2100, 2, 28, 23, 0), 0, 0, 0, 1, 3, 2100, 2, 60, 0);
        dueAll(Check.BERLIN, Check.at(2000, 12, 31, 22, 59), 0, 59, 23, 31, 12, 2000, 1, 60, 0);
        dueAll(Check.BERLIN, Check.at(2000, 12, 31, 23, 0), 0, 0, 0, 1, 1, 2001, 2, 60, 0);
        dueAll(Check.BERLIN, Check.at(2024, 8, 31, 12, 0), 0, 0, 14, 31, 8, 2024, 7, 120, 1);
        dueAll(Check.NEW_YORK, Check.at(2024, 3, 10, 7, 0) - 1, 59, 59, 1, 10, 3, 2024, 1, -300, 0);
        dueAll(Check.NEW_YORK, Check.at(2024, 3, 10, 7, 0), 0, 0, 3, 10, 3, 2024, 1, -240, 1);
        dueAll(Check.NEW_YORK, Check.at(2024, 1, 1, 4, 59), 0, 59, 23, 31, 12, 2023, 1, -300, 0);
    }

    private static void beforeLocal1970() {
        dueAll("-840", 0L, 0, 0, 10, 31, 12, 1969, 4, -840, 0);
        dueAll("-840", 1L, 0, 0, 10, 31, 12, 1969, 4, -840, 0);
        dueAll("-840", 999L, 0, 0, 10, 31, 12, 1969, 4, -840, 0);
        dueAll("-840", 1000L, 1, 0, 10, 31, 12, 1969, 4, -840, 0);
        dueAll("-840", 14 * HOUR - 1, 59, 59, 23, 31, 12, 1969, 4, -840, 0);
        dueAll("-840", 14 * HOUR, 0, 0, 0, 1, 1, 1970, 5, -840, 0);
        dueAll("-1", 0L, 0, 59, 23, 31, 12, 1969, 4, -1, 0);
        dueAll("-1", 59999L, 59, 59, 23, 31, 12, 1969, 4, -1, 0);
        dueAll("-1", 60000L, 0, 0, 0, 1, 1, 1970, 5, -1, 0);
    }

    private static void behindLocal2299() {
        dueAll("+840", Check.LAST_TIME, 59, 59, 13, 1, 1, 2300, 2, 840, 0);
        dueAll("+840", Check.LAST_TIME - 14 * HOUR, 59, 59, 23, 31, 12, 2299, 1, 840, 0);
        dueAll("+840", Check.LAST_TIME - 14 * HOUR + 1, 0, 0, 0, 1, 1, 2300, 2, 840, 0);
        dueAll("+840 120 M12.1.0/0 M6.1.0/0", Check.LAST_TIME, 59, 59, 15, 1, 1, 2300, 2, 960, 1);
    }

    private static void firstAndLastTimeThatMayBe() {
        dueAll("+0", 0L, 0, 0, 0, 1, 1, 1970, 5, 0, 0);
        dueAll("+0", Check.LAST_TIME, 59, 59, 23, 31, 12, 2299, 1, 0, 0);
    }

    // "what 0 .. 8"
    private static void whatIs0To8() {
        due(0, "+0", 0L, 0);
        due(0, "+0", 0L, 8);
        for (int what : new int[] {-1, 9, 10, 256, Integer.MIN_VALUE, Integer.MAX_VALUE}) {
            Witness.dueRefused(Check.REFUSED, "field " + what, clock -> clock.field(1, 0L, what));
        }
    }

    // "IllegalArgumentException: a number out of range", and "A call that throws changes nothing"
    private static void refusesWhatIsOutOfRangeAndChangesNothing() {
        for (int i = 0; i <= 8; i++) {
            int what = i;
            Check.dueRefusedOutOfRange("field " + what, (clock, z, t) -> clock.field(z, t, what));
        }
        Check.dueRefusedOutOfRange("field 9", (clock, z, t) -> clock.field(z, t, 9));
    }
}
