import java.time.LocalDateTime;
import java.time.ZoneOffset;

/** Promises 5 to 9 on answers reckoned by hand: local, many, universal, change, field. */
public final class TimesTest {
    private static final long HOUR = 3600000L;

    public static void main(String[] args) {
        wrongNumbers();
        localTurnsAtTheChange();
        skippedAndTwice();
        halfHourInTheSouth();
        localTimesOutsideOfTime();
        changesAreFoundFromBothSides();
        changesAtTheEnds();
        beginningAndEndAtTheSameTime();
        summerThatNeverEndsOrBeginsAgain();
        endsThatFollowEnds();
        fieldsOfALocalTime();
        fieldsOutsideOfTheYears();
        fifthWeekIsTheLast();
        readmeExample();
        Check.done();
    }

    private static long at(int year, int month, int day, int hour, int minute) {
        return LocalDateTime.of(year, month, day, hour, minute).toEpochSecond(ZoneOffset.UTC) * 1000;
    }

    private static void wrongNumbers() {
        ZoneClock clock = Check.clockWith(1, Check.BERLIN);
        for (int z : new int[] {-1, 8, Integer.MIN_VALUE, Integer.MAX_VALUE}) {
            dueRefused(clock, z, 0L);
        }
        for (long t : new long[] {-1L, Check.LAST_TIME + 1, Long.MIN_VALUE, Long.MAX_VALUE, 1L << 32 << 31}) {
            dueRefused(clock, 1, t);
        }
        for (int what : new int[] {-1, 9, Integer.MIN_VALUE, Integer.MAX_VALUE}) {
            Check.dueArgument("field(what " + what + ")", () -> clock.field(1, 0L, what));
        }
        Check.due(HOUR, "local(0)", () -> clock.local(1, 0L));
        Check.due(Check.LAST_TIME + HOUR, "local at the last time", () -> clock.local(1, Check.LAST_TIME));
        Check.due(1, "many of the last", () -> clock.many(1, Check.LAST_TIME));
    }

    private static void dueRefused(ZoneClock clock, int z, long t) {
        Check.dueArgument("local " + z + " " + t, () -> clock.local(z, t));
        Check.dueArgument("many " + z + " " + t, () -> clock.many(z, t));
        Check.dueArgument("universal " + z + " " + t, () -> clock.universal(z, t, false));
        Check.dueArgument("universal later " + z + " " + t, () -> clock.universal(z, t, true));
        Check.dueArgument("change " + z + " " + t, () -> clock.change(z, t, false));
        Check.dueArgument("change back " + z + " " + t, () -> clock.change(z, t, true));
        Check.dueArgument("field " + z + " " + t, () -> clock.field(z, t, 0));
    }

    private static void localTurnsAtTheChange() {
        ZoneClock clock = Check.clockWith(1, Check.NEW_YORK);
        long begin = at(2024, 3, 10, 7, 0);
        Check.due(begin - 1 - 5 * HOUR, "before the beginning", () -> clock.local(1, begin - 1));
        Check.due(begin - 4 * HOUR, "at the beginning", () -> clock.local(1, begin));
        long end = at(2024, 11, 3, 6, 0);
        Check.due(end - 1 - 4 * HOUR, "before the end", () -> clock.local(1, end - 1));
        Check.due(end - 5 * HOUR, "at the end", () -> clock.local(1, end));
    }

    private static void skippedAndTwice() {
        ZoneClock clock = Check.clockWith(1, Check.NEW_YORK);
        long skipped = at(2024, 3, 10, 2, 0);
        dueOnce(clock, 1, skipped - 1, skipped - 1 + 5 * HOUR);
        dueNone(clock, 1, skipped);
        dueNone(clock, 1, skipped + HOUR - 1);
        dueOnce(clock, 1, skipped + HOUR, skipped + 5 * HOUR);
        long twice = at(2024, 11, 3, 1, 0);
        dueOnce(clock, 1, twice - 1, twice - 1 + 4 * HOUR);
        dueTwice(clock, 1, twice, twice + 4 * HOUR, twice + 5 * HOUR);
        dueTwice(clock, 1, twice + HOUR - 1, twice - 1 + 5 * HOUR, twice - 1 + 6 * HOUR);
        dueOnce(clock, 1, twice + HOUR, twice + 6 * HOUR);
    }

    private static void dueNone(ZoneClock clock, int z, long local) {
        Check.due(0, "many of " + local, () -> clock.many(z, local));
        Check.due("NoSuchElementException", "first of " + local, () -> clock.universal(z, local, false));
        Check.due("NoSuchElementException", "last of " + local, () -> clock.universal(z, local, true));
    }

    private static void dueOnce(ZoneClock clock, int z, long local, long t) {
        Check.due(1, "many of " + local, () -> clock.many(z, local));
        Check.due(t, "first of " + local, () -> clock.universal(z, local, false));
        Check.due(t, "last of " + local, () -> clock.universal(z, local, true));
    }

    private static void dueTwice(ZoneClock clock, int z, long local, long first, long last) {
        Check.due(2, "many of " + local, () -> clock.many(z, local));
        Check.due(first, "first of " + local, () -> clock.universal(z, local, false));
        Check.due(last, "last of " + local, () -> clock.universal(z, local, true));
    }

    private static void halfHourInTheSouth() {
        ZoneClock clock = Check.clockWith(3, Check.LORD_HOWE);
        long minute = 60000L;
        Check.due(630, "before all, 1970 has no summer", () -> clock.field(3, 0L, 7));
        Check.due(660, "January 1971 is in summer", () -> clock.field(3, at(1971, 1, 1, 0, 0), 7));
        dueNone(clock, 3, at(2024, 10, 6, 2, 29));
        dueOnce(clock, 3, at(2024, 10, 6, 2, 30), at(2024, 10, 6, 2, 30) - 660 * minute);
        long twice = at(2024, 4, 7, 1, 30);
        dueTwice(clock, 3, twice, twice - 660 * minute, twice - 630 * minute);
    }

    private static void localTimesOutsideOfTime() {
        ZoneClock clock = Check.clockWith(0, "-840");
        Check.due(-14 * HOUR, "local before 1970", () -> clock.local(0, 0L));
        dueOnce(clock, 0, Check.LAST_TIME, Check.LAST_TIME + 14 * HOUR);
        ZoneClock east = Check.clockWith(0, "+840");
        dueOnce(east, 0, 0L, -14 * HOUR);
        Check.due(Check.LAST_TIME + 14 * HOUR, "local behind 2299", () -> east.local(0, Check.LAST_TIME));
        // Summer begins with the first minute of 1970 (a Thursday), 14 hours before universal 1970.
        ZoneClock summer = Check.clockWith(0, "+840 120 M1.1.4/0 M12.5.0/0");
        dueNone(summer, 0, 0L);
        dueNone(summer, 0, 2 * HOUR - 1);
        dueOnce(summer, 0, 2 * HOUR, -14 * HOUR);
        Check.due(16 * HOUR, "summer since before 1970", () -> summer.local(0, 0L));
    }

    private static void changesAreFoundFromBothSides() {
        ZoneClock clock = Check.clockWith(1, Check.BERLIN);
        long begin = at(2024, 3, 31, 1, 0);
        long end = at(2024, 10, 27, 1, 0);
        Check.due(begin, "behind the ms before", () -> clock.change(1, begin - 1, false));
        Check.due(end, "behind the change itself", () -> clock.change(1, begin, false));
        Check.due(begin, "back from the change itself", () -> clock.change(1, begin, true));
        Check.due(at(2023, 10, 29, 1, 0), "back from before it", () -> clock.change(1, begin - 1, true));
        Check.due(end, "back from the end of 2024", () -> clock.change(1, at(2024, 12, 31, 23, 59), true));
    }

    private static void changesAtTheEnds() {
        ZoneClock clock = Check.clockWith(1, Check.BERLIN);
        long first = at(1970, 3, 29, 1, 0);
        Check.due(first, "the first of all", () -> clock.change(1, 0L, false));
        Check.due(-1L, "back before the first", () -> clock.change(1, first - 1, true));
        Check.due(first, "back at the first", () -> clock.change(1, first, true));
        long last = at(2299, 10, 29, 1, 0);
        Check.due(last, "the last of all", () -> clock.change(1, last - 1, false));
        Check.due(-1L, "behind the last", () -> clock.change(1, last, false));
        Check.due(last, "back from the last time", () -> clock.change(1, Check.LAST_TIME, true));

        ZoneClock plain = Check.clockWith(1, "+60");
        Check.due(-1L, "no summer", () -> plain.change(1, first, false));
        Check.due(-1L, "no summer, back", () -> plain.change(1, first, true));

        ZoneClock early = Check.clockWith(1, "+840 120 M1.1.4/0 M12.5.0/0");
        Check.due(-1L, "a beginning before 1970", () -> early.change(1, 0L, true));
        ZoneClock zero = Check.clockWith(1, "+840 120 M1.1.4/840 M12.5.0/0");
        Check.due(0L, "a beginning at 0", () -> zero.change(1, 0L, true));

        // 31 December 1969 was a Wednesday, and is still LOCAL time at 0; its year has no rules.
        ZoneClock before = Check.clockWith(1, "-840 60 M12.5.3/1439 M6.1.0/60");
        Check.due(at(1970, 6, 7, 14, 0), "none of 1969", () -> before.change(1, 0L, false));
        Check.due(-1L, "none of 1969, back", () -> before.change(1, 15 * HOUR, true));

        // 31 December 2299 is a Sunday.
        ZoneClock late = Check.clockWith(1, "-840 120 M6.1.0/0 M12.5.0/1439");
        long behindTime = at(2300, 1, 1, 11, 59);
        Check.due(behindTime, "an end behind TIME", () -> late.change(1, Check.LAST_TIME, false));
        Check.due(1, "summer up to it", () -> late.field(1, Check.LAST_TIME, 8));
    }

    private static void beginningAndEndAtTheSameTime() {
        ZoneClock clock = Check.clockWith(4, "+0 60 M6.1.0/0 M6.1.0/60");
        long both = at(2024, 6, 2, 0, 0);
        Check.due(0, "not summer at it", () -> clock.field(4, both, 8));
        Check.due(0, "not summer behind it", () -> clock.field(4, both + HOUR, 8));
        Check.due(both, "it is a beginning and an end", () -> clock.change(4, both - 1, false));
        Check.due(both, "back too", () -> clock.change(4, both, true));
        dueOnce(clock, 4, both, both);
        dueOnce(clock, 4, both + HOUR, both + HOUR);
    }

    private static void summerThatNeverEndsOrBeginsAgain() {
        // The year's summer begins behind the end that stands in the same year.
        ZoneClock clock = Check.clockWith(4, Check.LORD_HOWE);
        long lastBegin = at(2299, 10, 1, 2, 0) - 630 * 60000L;
        Check.due(lastBegin, "the last beginning", () -> clock.change(4, Check.LAST_TIME, true));
        Check.due(1, "summer stays", () -> clock.field(4, Check.LAST_TIME, 8));
        Check.due(-1L, "nothing behind it", () -> clock.change(4, lastBegin, false));
        dueOnce(clock, 4, Check.LAST_TIME, Check.LAST_TIME - 660 * 60000L);
        long firstEnd = at(1970, 4, 5, 2, 0) - 660 * 60000L;
        Check.due(firstEnd, "the first of all is an end", () -> clock.change(4, 0L, false));
        dueOnce(clock, 4, firstEnd + 630 * 60000L, firstEnd);
    }

    private static void endsThatFollowEnds() {
        // First Sunday and first Monday of a month: which comes first differs by year.
        ZoneClock clock = Check.clockWith(5, "+0 60 M3.1.0/120 M3.1.1/180");
        Check.due(at(2021, 3, 1, 2, 0), "the end in 2021", () -> clock.change(5, at(2021, 1, 1, 0, 0), false));
        Check.due(at(2020, 3, 2, 2, 0), "the end in 2020", () -> clock.change(5, at(2021, 1, 1, 0, 0), true));
        Check.due(0, "not summer", () -> clock.field(5, at(2021, 3, 6, 0, 0), 8));
        Check.due(1, "summer for a year", () -> clock.field(5, at(2022, 1, 1, 0, 0), 8));
        Check.due(at(2022, 3, 6, 2, 0), "a beginning in summer", () -> clock.change(5, at(2022, 1, 1, 0, 0), false));
        dueOnce(clock, 5, at(2022, 3, 6, 2, 30), at(2022, 3, 6, 1, 30));
    }

    private static void fieldsOfALocalTime() {
        ZoneClock clock = Check.clockWith(1, Check.BERLIN);
        dueFields(clock, at(2024, 2, 28, 23, 1) + 7999, 7, 1, 0, 29, 2, 2024, 5, 60, 0);
        dueFields(clock, at(2024, 6, 30, 22, 59) + 59999, 59, 59, 0, 1, 7, 2024, 2, 120, 1);
        dueFields(clock, at(2100, 2, 28, 23, 0), 0, 0, 0, 1, 3, 2100, 2, 60, 0);
        dueFields(clock, at(2000, 12, 31, 22, 59), 0, 59, 23, 31, 12, 2000, 1, 60, 0);
        dueFields(clock, at(2024, 8, 31, 12, 0), 0, 0, 14, 31, 8, 2024, 7, 120, 1);
    }

    private static void dueFields(ZoneClock clock, long t, int... fields) {
        for (int i = 0; i < fields.length; i++) {
            int what = i;
            Check.due(fields[what], "field " + what + " at " + t, () -> clock.field(1, t, what));
        }
    }

    private static void fieldsOutsideOfTheYears() {
        ZoneClock west = Check.clockWith(1, "-840");
        dueFields(west, 0L, 0, 0, 10, 31, 12, 1969, 4, -840, 0);
        dueFields(west, 14 * HOUR - 1, 59, 59, 23, 31, 12, 1969, 4, -840, 0);
        dueFields(west, 14 * HOUR, 0, 0, 0, 1, 1, 1970, 5, -840, 0);
        ZoneClock east = Check.clockWith(1, "+840");
        dueFields(east, Check.LAST_TIME, 59, 59, 13, 1, 1, 2300, 2, 840, 0);
    }

    private static void fifthWeekIsTheLast() {
        // May 2024 has five Fridays (31 the last), June 2024 four Wednesdays (26 the last).
        ZoneClock five = Check.clockWith(1, "+0 60 M5.5.5/0 M6.5.3/60");
        Check.due(at(2024, 5, 31, 0, 0), "the fifth", () -> five.change(1, at(2024, 5, 1, 0, 0), false));
        Check.due(at(2024, 6, 26, 0, 0), "the last of four", () -> five.change(1, at(2024, 6, 1, 0, 0), false));
        ZoneClock four = Check.clockWith(1, "+0 60 M5.4.5/0 M6.4.3/60");
        Check.due(at(2024, 5, 24, 0, 0), "the fourth of five", () -> four.change(1, at(2024, 5, 1, 0, 0), false));
        Check.due(at(2024, 6, 26, 0, 0), "the fourth", () -> four.change(1, at(2024, 6, 1, 0, 0), false));
        // A leap day is the fifth Thursday of February 2024; 2023 has four of each weekday.
        ZoneClock leap = Check.clockWith(1, "+0 60 M2.5.4/0 M6.1.3/60");
        Check.due(at(2024, 2, 29, 0, 0), "the leap day", () -> leap.change(1, at(2024, 2, 1, 0, 0), false));
        Check.due(at(2023, 2, 23, 0, 0), "without one", () -> leap.change(1, at(2023, 2, 1, 0, 0), false));
    }

    private static void readmeExample() {
        ZoneClock clock = new ZoneClock();
        clock.feed(0x2b363020, 0x3630204d, 0x332e352e, 0x302f3132, 0x30204d31);
        clock.feed(0x302e352e, 0x302f3138, 0x30000000, 0, 0);
        clock.end(29);
        Check.due("told", "zone", () -> Check.zone(clock, 1));
        Check.due(1720007200000L, "local", () -> clock.local(1, 1720000000000L));
        Check.due(11, "hour", () -> clock.field(1, 1720000000000L, 2));
        Check.due(2, "many", () -> clock.many(1, 1729995300000L));
        Check.due(1729991700000L, "universal", () -> clock.universal(1, 1729995300000L, true));
        Check.due(0, "many", () -> clock.many(1, 1711851300000L));
        Check.due(1729990800000L, "change", () -> clock.change(1, 1720000000000L, false));
    }
}
