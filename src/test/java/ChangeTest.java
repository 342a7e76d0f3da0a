/** Promise 8, change, a method for each sentence and edge. */
public final class ChangeTest {
    private static final long MINUTE = Check.MINUTE;

    public static void main(String[] args) {
        firstOneBehind();
        lastOneNotBehind();
        everyYearFromTheFirstToTheLast();
        noneBehindTheLastOfAll();
        noneBackBeforeTheFirstOfAll();
        noneWithoutSummer();
        firstMayLieBeyondTheEndOfTime();
        backBefore1970IsMinusOne();
        backAtExactly0();
        beginningAndEndAtTheSameTime();
        beginningInSummerAndEndOutsideOfIt();
        firstAndLastTimeThatMayBe();
        refusesWhatIsOutOfRangeAndChangesNothing();
        Check.done();
    }

    // "The first beginning or end of SUMMER behind t"
    private static void firstOneBehind() {
        ZoneClock clock = Check.clockWith(1, Check.BERLIN);
        long begin = Check.at(2024, 3, 31, 1, 0);
        long end = Check.at(2024, 10, 27, 1, 0);
        Check.due(begin, "behind the ms before", () -> clock.change(1, begin - 1, false));
        Check.due(end, "behind the beginning itself", () -> clock.change(1, begin, false));
        Check.due(end, "behind the ms before the end", () -> clock.change(1, end - 1, false));
        Check.due(Check.at(2025, 3, 30, 1, 0), "behind the end itself", () -> clock.change(1, end, false));
        Check.due(Check.at(2025, 3, 30, 1, 0), "behind the year",
                () -> clock.change(1, Check.at(2025, 1, 1, 0, 0), false));
    }

    // "back: the last one not behind t"
    private static void lastOneNotBehind() {
        ZoneClock clock = Check.clockWith(1, Check.BERLIN);
        long begin = Check.at(2024, 3, 31, 1, 0);
        long end = Check.at(2024, 10, 27, 1, 0);
        Check.due(Check.at(2023, 10, 29, 1, 0), "back from before the beginning",
                () -> clock.change(1, begin - 1, true));
        Check.due(begin, "back from the beginning itself", () -> clock.change(1, begin, true));
        Check.due(begin, "back from behind it", () -> clock.change(1, begin + 1, true));
        Check.due(begin, "back from before the end", () -> clock.change(1, end - 1, true));
        Check.due(end, "back from the end itself", () -> clock.change(1, end, true));
        Check.due(end, "back from the next year", () -> clock.change(1, Check.at(2025, 1, 1, 0, 0), true));
    }

    /** All 660 of them in their order, and from just before each one back to the one before it. */
    private static void everyYearFromTheFirstToTheLast() {
        ZoneClock clock = null;
        long t = 0L;
        for (int i = 0; i < 660; i++) {
            clock = i % 100 == 0 ? Check.clockWith(1, "+0 60 M1.1.4/1 M7.1.0/60") : clock;
            ZoneClock used = clock;
            long from = t;
            int year = 1970 + i / 2;
            t = used.change(1, from, false);
            long found = t;
            Check.due(year, "year of change " + i, () -> used.field(1, found, 5));
            int before = i;
            Check.due(before == 0 ? -1L : from, "back from before change " + i, () -> used.change(1, found - 1, true));
        }
        ZoneClock used = clock;
        long last = t;
        Check.due(-1L, "behind all", () -> used.change(1, last, false));
    }

    // "-1 without"
    private static void noneBehindTheLastOfAll() {
        ZoneClock north = Check.clockWith(1, Check.BERLIN);
        long end = Check.at(2299, 10, 29, 1, 0);
        Check.due(end, "the last of all", () -> north.change(1, end - 1, false));
        Check.due(-1L, "behind the last", () -> north.change(1, end, false));
        Check.due(-1L, "behind the last TIME", () -> north.change(1, Check.LAST_TIME, false));
        Check.due(end, "back from the last TIME", () -> north.change(1, Check.LAST_TIME, true));
        ZoneClock south = Check.clockWith(1, Check.LORD_HOWE);
        long begin = Check.at(2299, 10, 1, 2, 0) - 630 * MINUTE;
        Check.due(begin, "the last in the south", () -> south.change(1, begin - 1, false));
        Check.due(-1L, "behind the last in the south", () -> south.change(1, begin, false));
        Check.due(begin, "back to the last in the south", () -> south.change(1, Check.LAST_TIME, true));
    }

    // "or there is none"
    private static void noneBackBeforeTheFirstOfAll() {
        ZoneClock north = Check.clockWith(1, Check.BERLIN);
        long begin = Check.at(1970, 3, 29, 1, 0);
        Check.due(begin, "the first of all", () -> north.change(1, 0L, false));
        Check.due(-1L, "back from 0", () -> north.change(1, 0L, true));
        Check.due(-1L, "back from before the first", () -> north.change(1, begin - 1, true));
        Check.due(begin, "back from the first", () -> north.change(1, begin, true));
        ZoneClock south = Check.clockWith(1, Check.LORD_HOWE);
        long end = Check.at(1970, 4, 5, 2, 0) - 660 * MINUTE;
        Check.due(end, "the first in the south is an end", () -> south.change(1, 0L, false));
        Check.due(-1L, "back from before it", () -> south.change(1, end - 1, true));
        Check.due(end, "back from it", () -> south.change(1, end, true));
    }

    private static void noneWithoutSummer() {
        ZoneClock clock = Check.clockWith(1, "+60");
        for (int i = 0; i < 2; i++) {
            int z = i;
            for (long t : new long[] {0L, 1720000000000L, Check.LAST_TIME}) {
                Check.due(-1L, "no summer", () -> clock.change(z, t, false));
                Check.due(-1L, "no summer, back", () -> clock.change(z, t, true));
            }
        }
    }

    // "(also beyond the end of TIME)"; 31 December 2299 is a Sunday
    private static void firstMayLieBeyondTheEndOfTime() {
        ZoneClock end = Check.clockWith(1, "-840 120 M6.1.0/0 M12.5.0/1439");
        long lastEnd = Check.at(2300, 1, 1, 11, 59);
        Check.due(lastEnd, "an end beyond", () -> end.change(1, Check.LAST_TIME, false));
        Check.due(1, "summer up to it", () -> end.field(1, Check.LAST_TIME, 8));
        ZoneClock begin = Check.clockWith(1, "-840 120 M12.5.0/1439 M6.1.0/0");
        Check.due(Check.at(2300, 1, 1, 13, 59), "a beginning beyond", () -> begin.change(1, Check.LAST_TIME, false));
        Check.due(0, "no summer up to it", () -> begin.field(1, Check.LAST_TIME, 8));
        // At the first millisecond beyond, and a minute earlier: then none is left.
        ZoneClock first = Check.clockWith(1, "-840 120 M12.5.0/600 M6.1.0/0");
        Check.due(Check.LAST_TIME + 1, "one beyond", () -> first.change(1, Check.LAST_TIME, false));
        ZoneClock within = Check.clockWith(1, "-840 120 M12.5.0/599 M6.1.0/0");
        long last = Check.LAST_TIME + 1 - MINUTE;
        Check.due(last, "the last within", () -> within.change(1, last - 1, false));
        Check.due(-1L, "none beyond", () -> within.change(1, last, false));
        Check.due(last, "back to the last within", () -> within.change(1, Check.LAST_TIME, true));
        // Of two beyond, the first.
        ZoneClock both = Check.clockWith(1, "-840 60 M12.5.0/1200 M12.5.0/1400");
        Check.due(Check.at(2300, 1, 1, 10, 0), "the first of two beyond", () -> both.change(1, Check.LAST_TIME, false));
    }

    // "or -1 if it is before 1970"; the first of January 1970 was a Thursday
    private static void backBefore1970IsMinusOne() {
        ZoneClock early = Check.clockWith(1, "+840 120 M1.1.4/0 M12.5.0/0");
        Check.due(-1L, "a beginning long before", () -> early.change(1, 0L, true));
        Check.due(-1L, "the same from later", () -> early.change(1, Check.at(1970, 7, 1, 0, 0), true));
        ZoneClock begin = Check.clockWith(1, "+840 120 M1.1.4/839 M12.5.0/0");
        Check.due(-1L, "a beginning a minute before", () -> begin.change(1, 0L, true));
        Check.due(1, "but it counts", () -> begin.field(1, 0L, 8));
        ZoneClock end = Check.clockWith(1, "+840 120 M6.1.0/0 M1.1.4/959");
        Check.due(-1L, "an end a minute before", () -> end.change(1, 0L, true));
        Check.due(Check.at(1970, 6, 6, 10, 0), "what comes behind it", () -> end.change(1, 0L, false));
    }

    private static void backAtExactly0() {
        ZoneClock begin = Check.clockWith(1, "+840 120 M1.1.4/840 M12.5.0/0");
        Check.due(0L, "a beginning at 0", () -> begin.change(1, 0L, true));
        Check.due(0L, "a beginning at 0 from 1", () -> begin.change(1, 1L, true));
        Check.due(Check.at(1970, 12, 26, 8, 0), "behind a beginning at 0", () -> begin.change(1, 0L, false));
        ZoneClock end = Check.clockWith(1, "+840 120 M6.1.0/0 M1.1.4/960");
        Check.due(0L, "an end at 0", () -> end.change(1, 0L, true));
        ZoneClock later = Check.clockWith(1, "+840 120 M1.1.4/841 M12.5.0/0");
        Check.due(MINUTE, "a beginning a minute later", () -> later.change(1, 0L, false));
        Check.due(-1L, "back from 0", () -> later.change(1, 0L, true));
    }

    private static void beginningAndEndAtTheSameTime() {
        ZoneClock clock = Check.clockWith(4, "+0 60 M6.1.0/0 M6.1.0/60");
        long both = Check.at(2024, 6, 2, 0, 0);
        Check.due(both, "it is a beginning and an end", () -> clock.change(4, both - 1, false));
        Check.due(Check.at(2025, 6, 1, 0, 0), "the next", () -> clock.change(4, both, false));
        Check.due(both, "back too", () -> clock.change(4, both, true));
        Check.due(Check.at(2023, 6, 4, 0, 0), "back from before", () -> clock.change(4, both - 1, true));
    }

    private static void beginningInSummerAndEndOutsideOfIt() {
        // The first Sunday and the first Monday of a month: which comes first differs by year.
        ZoneClock clock = Check.clockWith(5, "+0 60 M3.1.0/120 M3.1.1/180");
        long newYear2021 = Check.at(2021, 1, 1, 0, 0);
        long newYear2022 = Check.at(2022, 1, 1, 0, 0);
        Check.due(Check.at(2020, 3, 2, 2, 0), "back to the end in 2020", () -> clock.change(5, newYear2021, true));
        Check.due(Check.at(2021, 3, 1, 2, 0), "the end in 2021", () -> clock.change(5, newYear2021, false));
        Check.due(Check.at(2021, 3, 7, 2, 0), "back to the beginning in 2021",
                () -> clock.change(5, newYear2022, true));
        Check.due(Check.at(2022, 3, 6, 2, 0), "the beginning in 2022", () -> clock.change(5, newYear2022, false));
    }

    // "t a TIME"
    private static void firstAndLastTimeThatMayBe() {
        ZoneClock clock = Check.clockWith(7, Check.NEW_YORK);
        Check.due(Check.at(1970, 3, 8, 7, 0), "from 0", () -> clock.change(7, 0L, false));
        Check.due(-1L, "back from 0", () -> clock.change(7, 0L, true));
        Check.due(-1L, "from the last", () -> clock.change(7, Check.LAST_TIME, false));
        Check.due(Check.at(2299, 11, 5, 6, 0), "back from the last", () -> clock.change(7, Check.LAST_TIME, true));
    }

    // "IllegalArgumentException: a number out of range", and "A call that throws changes nothing"
    private static void refusesWhatIsOutOfRangeAndChangesNothing() {
        Check.dueRefusedOutOfRange("change", (clock, z, t) -> clock.change(z, t, false));
        Check.dueRefusedOutOfRange("change back", (clock, z, t) -> clock.change(z, t, true));
    }
}
