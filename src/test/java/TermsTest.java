import java.time.LocalDate;

/** "What it is" and "Terms": a method for each sentence and edge that all calls have in common. */
public final class TermsTest {
    private static final long HOUR = Check.HOUR;
    private static final long MINUTE = Check.MINUTE;

    public static void main(String[] args) {
        all512CallsAreGood();
        all512CallsAreGoodIfAllThrow();
        firstOfJanuary1970WasAThursday();
        leapYears();
        everyMonthOfEveryYear();
        localIsUniversalAndOffset();
        saveBesidesInSummer();
        summerInEachYearFrom1970To2299();
        noSummerOfTheYear1969();
        noSummerOfTheYear2300();
        yearOfARuleIsTheLocalOne();
        weekthOneInTheMonth();
        fifthWeekIsTheLastOne();
        beginsInLocalTimeWithoutSave();
        endsInLocalTimeWithSave();
        latestBeginningOrEndSays();
        ofBothAtTheSameTimeTheEnd();
        beforeTheFirstOfAllIsNoSummer();
        behindTheLastOfAllItStays();
        noZoneWasTold();
        callsThatAnswerChangeNothing();
        Check.done();
    }

    // "An object is used for at most 512 calls"
    private static void all512CallsAreGood() {
        ZoneClock clock = new ZoneClock();
        int calls = 0;
        while (calls + 16 <= 512) {
            int z = calls % 7;
            Check.tellZone(clock, z, Check.BERLIN);
            Check.tellZone(clock, 7, Check.NEW_YORK);
            long t = Check.at(1980 + calls / 4, 6, 1, 0, 0);
            Check.due(t + 2 * HOUR, "local behind " + calls, () -> clock.local(z, t));
            Check.due(1, "many behind " + calls, () -> clock.many(z, t));
            Check.due(t - 2 * HOUR, "universal behind " + calls, () -> clock.universal(z, t, true));
            Check.due(-240, "field behind " + calls, () -> clock.field(7, t, 7));
            Check.due(1, "summer behind " + calls, () -> clock.field(7, t, 8));
            Check.due(11, "month behind " + calls, () -> clock.field(7, clock.change(7, t, false), 4));
            Check.due(-1, "place behind " + calls, clock::place);
            calls += 16;
        }
        int made = calls;
        Check.due(512, "calls that were made", () -> made);
    }

    private static void all512CallsAreGoodIfAllThrow() {
        ZoneClock clock = new ZoneClock();
        for (int i = 0; i < 255; i++) {
            Check.due(Check.BROKEN, "zone of nothing", () -> Check.zone(clock, 0));
            Check.dueRefused("local", () -> clock.local(0, -1L));
        }
        Check.due(0, "place", clock::place);
        Check.due(5L, "the 512th call", () -> clock.local(0, 5L));
    }

    // "(the first of January 1970 was a Thursday)"
    private static void firstOfJanuary1970WasAThursday() {
        ZoneClock clock = new ZoneClock();
        for (int i = 0; i < 14; i++) {
            int day = i;
            Check.due((day + 4) % 7 + 1, "weekday of day " + day, () -> clock.field(0, day * 24 * HOUR, 6));
            Check.due((day + 4) % 7 + 1, "weekday at the end of day " + day,
                    () -> clock.field(0, day * 24 * HOUR + 24 * HOUR - 1, 6));
        }
        Check.due(1, "31 December 2299, a Sunday", () -> clock.field(0, Check.LAST_TIME, 6));
    }

    // "leap years ... are those of the Gregorian calendar"
    private static void leapYears() {
        dueDayBehindFebruary28(29, 2, 1972, 1996, 2000, 2004, 2024, 2096, 2104, 2196, 2204, 2296);
        dueDayBehindFebruary28(1, 3, 1970, 1971, 1973, 2001, 2023, 2099, 2100, 2101, 2200, 2299);
    }

    private static void dueDayBehindFebruary28(int day, int month, int... years) {
        ZoneClock clock = new ZoneClock();
        for (int year : years) {
            long t = Check.at(year, 2, 28, 23, 59) + MINUTE;
            Check.due(28, "the day before in " + year, () -> clock.field(0, t - 1, 3));
            Check.due(day, "day behind 28 February " + year, () -> clock.field(0, t, 3));
            Check.due(month, "month behind 28 February " + year, () -> clock.field(0, t, 4));
            Check.due(year, "year behind 28 February " + year, () -> clock.field(0, t, 5));
        }
    }

    // "Months, leap years, weekdays"
    private static void everyMonthOfEveryYear() {
        for (int year = 1970; year <= 2299; year++) {
            ZoneClock clock = new ZoneClock();
            for (int month = 1; month <= 12; month++) {
                LocalDate first = LocalDate.of(year, month, 1);
                dueDay(clock, first, first.toEpochDay() * 24 * HOUR);
                LocalDate last = first.plusMonths(1).minusDays(1);
                dueDay(clock, last, last.toEpochDay() * 24 * HOUR + 24 * HOUR - 1);
            }
        }
    }

    private static void dueDay(ZoneClock clock, LocalDate day, long t) {
        Check.due(day.getDayOfMonth(), "day of " + day, () -> clock.field(0, t, 3));
        Check.due(day.getMonthValue(), "month of " + day, () -> clock.field(0, t, 4));
        Check.due(day.getYear(), "year of " + day, () -> clock.field(0, t, 5));
        Check.due(day.getDayOfWeek().getValue() % 7 + 1, "weekday of " + day, () -> clock.field(0, t, 6));
    }

    // "LOCAL time is universal time and OFFSET"
    private static void localIsUniversalAndOffset() {
        for (int offset : new int[] {-840, -1, 0, 1, 840}) {
            ZoneClock clock = Check.clockWith(0, (offset < 0 ? "" : "+") + offset);
            for (long t : new long[] {0L, 1L, 1720000000000L, Check.LAST_TIME}) {
                Check.due(t + offset * MINUTE, "local at " + t, () -> clock.local(0, t));
            }
        }
    }

    // "and in SUMMER SAVE besides"
    private static void saveBesidesInSummer() {
        long summer = Check.at(2024, 7, 1, 0, 0);
        for (int offset : new int[] {-840, -1, 0, 1, 840}) {
            for (int save : new int[] {1, 60, 120}) {
                String sign = offset < 0 ? "" : "+";
                ZoneClock clock = Check.clockWith(0, sign + offset + " " + save + " M3.1.0/0 M9.1.0/0");
                Check.due(offset + save, "minutes in summer", () -> clock.field(0, summer, 7));
                Check.due(offset, "minutes in winter", () -> clock.field(0, Check.at(2024, 1, 1, 0, 0), 7));
            }
        }
    }

    // "In each year (LOCAL, 1970 to 2299)"
    private static void summerInEachYearFrom1970To2299() {
        ZoneClock clock = null;
        for (int i = 1970; i <= 2299; i++) {
            int year = i;
            clock = year % 80 == 0 || clock == null ? Check.clockWith(0, "+0 60 M6.1.0/0 M8.1.0/0") : clock;
            ZoneClock used = clock;
            Check.due(0, "May " + year, () -> used.field(0, Check.at(year, 5, 31, 23, 59), 8));
            Check.due(1, "July " + year, () -> used.field(0, Check.at(year, 7, 15, 0, 0), 8));
            Check.due(0, "September " + year, () -> used.field(0, Check.at(year, 9, 1, 0, 0), 8));
        }
    }

    private static void noSummerOfTheYear1969() {
        // LOCAL time at 0 is 31 December 1969, 10:00, a Wednesday.
        ZoneClock clock = Check.clockWith(1, "-840 60 M12.5.3/1439 M6.1.0/60");
        Check.due(0, "behind a beginning of 1969", () -> clock.field(1, 14 * HOUR, 8));
        Check.due(Check.at(1970, 6, 7, 14, 0), "none of 1969", () -> clock.change(1, 0L, false));
        Check.due(-1L, "none of 1969, back", () -> clock.change(1, 15 * HOUR, true));
        ZoneClock end = Check.clockWith(1, "-840 60 M6.1.0/0 M12.5.3/1439");
        Check.due(Check.at(1970, 6, 7, 14, 0), "no end of 1969", () -> end.change(1, 0L, false));
        // Were there a beginning in 1969, January 1970 would be in summer.
        ZoneClock south = Check.clockWith(1, Check.LORD_HOWE);
        Check.due(0, "no summer since 1969", () -> south.field(1, 0L, 8));
    }

    private static void noSummerOfTheYear2300() {
        // LOCAL time at the last TIME is 1 January 2300, 13:59, a Monday.
        ZoneClock clock = Check.clockWith(1, "+840 60 M1.1.1/0 M6.1.0/0");
        Check.due(0, "behind a beginning of 2300", () -> clock.field(1, Check.LAST_TIME, 8));
        Check.due(-1L, "none of 2300", () -> clock.change(1, Check.at(2299, 12, 31, 9, 59), false));
        Check.due(Check.at(2299, 6, 4, 0, 0) - 900 * MINUTE, "none of 2300, back",
                () -> clock.change(1, Check.LAST_TIME, true));
        ZoneClock end = Check.clockWith(1, "+840 60 M6.1.0/0 M1.1.1/120");
        Check.due(1, "behind an end of 2300", () -> end.field(1, Check.LAST_TIME, 8));
        Check.due(-1L, "no end of 2300", () -> end.change(1, Check.at(2299, 12, 31, 0, 0), false));
    }

    private static void yearOfARuleIsTheLocalOne() {
        // 1 January 2023 and 31 December 2023 are Sundays.
        ZoneClock east = Check.clockWith(1, "+840 60 M1.1.0/0 M6.1.0/60");
        long early = Check.at(2022, 12, 31, 10, 0);
        Check.due(early, "2023 begins in universal 2022", () -> east.change(1, early - 1, false));
        Check.due(0, "before it", () -> east.field(1, early - 1, 8));
        Check.due(1, "at it", () -> east.field(1, early, 8));
        ZoneClock west = Check.clockWith(1, "-840 60 M12.5.0/1439 M6.1.0/60");
        long late = Check.at(2024, 1, 1, 13, 59);
        Check.due(late, "2023 begins in universal 2024", () -> west.change(1, late - 1, false));
        Check.due(0, "before it", () -> west.field(1, late - 1, 8));
        Check.due(1, "at it", () -> west.field(1, late, 8));
        // With SAVE it is 2023, without it 2022.
        ZoneClock end = Check.clockWith(1, "+0 120 M6.1.0/0 M1.1.0/0");
        long back = Check.at(2022, 12, 31, 22, 0);
        Check.due(back, "2023 ends in 2022 without SAVE", () -> end.change(1, back - 1, false));
        Check.due(1, "before it", () -> end.field(1, back - 1, 8));
        Check.due(2022, "year at it", () -> end.field(1, back, 5));
        Check.due(0, "at it", () -> end.field(1, back, 8));
    }

    // "the week-th one in that month"; September 2024 begins with a Sunday, June 2024 ends with one
    private static void weekthOneInTheMonth() {
        dueBegins("M9.1.0", 9, 1);
        dueBegins("M9.2.0", 9, 8);
        dueBegins("M9.3.0", 9, 15);
        dueBegins("M9.4.0", 9, 22);
        dueBegins("M9.1.6", 9, 7);
        dueBegins("M9.1.1", 9, 2);
        dueBegins("M6.1.6", 6, 1);
        dueBegins("M6.1.0", 6, 2);
        dueBegins("M6.1.5", 6, 7);
        dueBegins("M6.4.5", 6, 28);
        dueBegins("M6.4.6", 6, 22);
        dueBegins("M6.4.0", 6, 23);
        dueBegins("M2.4.3", 2, 28);
        dueBegins("M2.4.4", 2, 22);
    }

    // "(5: the last one)": the fifth, or the fourth if there is no fifth
    private static void fifthWeekIsTheLastOne() {
        dueBegins("M9.5.0", 9, 29);
        dueBegins("M9.5.1", 9, 30);
        dueBegins("M9.5.2", 9, 24);
        dueBegins("M9.5.6", 9, 28);
        dueBegins("M6.5.0", 6, 30);
        dueBegins("M6.5.6", 6, 29);
        dueBegins("M6.5.5", 6, 28);
        dueBegins("M6.5.3", 6, 26);
        dueBegins("M5.5.5", 5, 31);
        dueBegins("M5.5.6", 5, 25);
        dueBegins("M5.5.3", 5, 29);
        dueBegins("M2.5.4", 2, 29);
        dueBegins("M2.5.3", 2, 28);
        dueBegins("M2.5.5", 2, 23);
        dueBegins("M12.5.2", 12, 31);
        dueBegins("M12.5.3", 12, 25);
        ZoneClock plainYear = Check.clockWith(1, "+0 60 M2.5.4/0 M1.1.1/0");
        Check.due(Check.at(2023, 2, 23, 0, 0), "without a leap day",
                () -> plainYear.change(1, Check.at(2023, 2, 1, 0, 0), false));
        // 2100 has no 29 February; its February has four of each weekday.
        Check.due(Check.at(2100, 2, 25, 0, 0), "in 2100", () -> plainYear.change(1, Check.at(2100, 2, 1, 0, 0), false));
    }

    /** As a beginning and as an end of 2024, at midnight. */
    private static void dueBegins(String rule, int month, int day) {
        long start = Check.at(2024, month, 1, 0, 0) - 1;
        ZoneClock first = Check.clockWith(1, "+0 60 " + rule + "/0 M1.1.1/0");
        Check.due(Check.at(2024, month, day, 0, 0), "beginning " + rule, () -> first.change(1, start, false));
        ZoneClock second = Check.clockWith(1, "+0 60 M1.1.1/0 " + rule + "/60");
        Check.due(Check.at(2024, month, day, 0, 0), "end " + rule, () -> second.change(1, start, false));
    }

    // "so many minutes behind midnight, in LOCAL time without SAVE"
    private static void beginsInLocalTimeWithoutSave() {
        dueBeginsAt("+60 30 M3.5.0/120 M10.5.0/180", Check.at(2024, 3, 31, 1, 0));
        dueBeginsAt("-300 60 M3.2.0/120 M11.1.0/120", Check.at(2024, 3, 10, 7, 0));
        dueBeginsAt("+840 120 M3.1.0/0 M9.1.0/0", Check.at(2024, 3, 2, 10, 0));
        dueBeginsAt("-840 120 M3.1.0/1439 M9.1.0/0", Check.at(2024, 3, 4, 13, 59));
    }

    private static void dueBeginsAt(String text, long begin) {
        ZoneClock clock = Check.clockWith(1, text);
        Check.due(begin, "beginning of " + text, () -> clock.change(1, Check.at(2024, 2, 1, 0, 0), false));
        Check.due(0, "before the beginning of " + text, () -> clock.field(1, begin - 1, 8));
        Check.due(1, "at the beginning of " + text, () -> clock.field(1, begin, 8));
    }

    // "and ends at the second RULE's, in LOCAL time with SAVE"
    private static void endsInLocalTimeWithSave() {
        dueEndsAt("+60 30 M3.5.0/120 M10.5.0/180", Check.at(2024, 10, 27, 1, 30));
        dueEndsAt("-300 60 M3.2.0/120 M11.1.0/120", Check.at(2024, 11, 3, 6, 0));
        dueEndsAt("+840 120 M3.1.0/0 M9.1.0/0", Check.at(2024, 8, 31, 8, 0));
        dueEndsAt("-840 120 M3.1.0/1439 M9.1.0/1439", Check.at(2024, 9, 2, 11, 59));
    }

    private static void dueEndsAt(String text, long end) {
        ZoneClock clock = Check.clockWith(1, text);
        Check.due(end, "end of " + text, () -> clock.change(1, Check.at(2024, 7, 1, 0, 0), false));
        Check.due(1, "before the end of " + text, () -> clock.field(1, end - 1, 8));
        Check.due(0, "at the end of " + text, () -> clock.field(1, end, 8));
    }

    // "whether it is SUMMER is as the latest of these beginnings and ends, in universal time, says"
    private static void latestBeginningOrEndSays() {
        // The first Sunday and the first Monday of a month: which comes first differs by year.
        ZoneClock clock = Check.clockWith(5, "+0 60 M3.1.0/120 M3.1.1/180");
        Check.due(0, "2021: the end comes first", () -> clock.field(5, Check.at(2021, 3, 6, 0, 0), 8));
        Check.due(0, "up to the beginning", () -> clock.field(5, Check.at(2021, 3, 7, 1, 59), 8));
        Check.due(1, "summer for a year", () -> clock.field(5, Check.at(2021, 3, 7, 2, 0), 8));
        Check.due(1, "it goes on in 2022", () -> clock.field(5, Check.at(2022, 1, 1, 0, 0), 8));
        Check.due(1, "over a beginning in summer", () -> clock.field(5, Check.at(2022, 3, 7, 1, 59), 8));
        Check.due(0, "the end of 2022", () -> clock.field(5, Check.at(2022, 3, 7, 2, 0), 8));
        // On one day at the same minute: the end is SAVE earlier in universal time.
        ZoneClock same = Check.clockWith(5, "+0 60 M6.1.0/120 M6.1.0/120");
        long begin = Check.at(2024, 6, 2, 2, 0);
        Check.due(1, "summer before the end", () -> same.field(5, begin - HOUR - 1, 8));
        Check.due(0, "an hour without", () -> same.field(5, begin - HOUR, 8));
        Check.due(0, "up to the beginning", () -> same.field(5, begin - 1, 8));
        Check.due(1, "and again", () -> same.field(5, begin, 8));
        // A minute more than SAVE: summer is one minute long.
        ZoneClock minute = Check.clockWith(5, "+0 60 M6.1.0/120 M6.1.0/181");
        Check.due(0, "before the minute", () -> minute.field(5, begin - 1, 8));
        Check.due(1, "in the minute", () -> minute.field(5, begin, 8));
        Check.due(1, "at its end", () -> minute.field(5, begin + MINUTE - 1, 8));
        Check.due(0, "behind it", () -> minute.field(5, begin + MINUTE, 8));
    }

    // "(of a beginning and an end at the same time: the end)"
    private static void ofBothAtTheSameTimeTheEnd() {
        ZoneClock clock = Check.clockWith(4, "+0 60 M6.1.0/0 M6.1.0/60");
        long both = Check.at(2024, 6, 2, 0, 0);
        for (long t : new long[] {0L, both - 1, both, both + 1, both + HOUR, Check.LAST_TIME}) {
            Check.due(0, "summer at " + t, () -> clock.field(4, t, 8));
            Check.due(t, "local at " + t, () -> clock.local(4, t));
            Check.dueOnce(clock, 4, t, t);
        }
    }

    // "before the first of all: not"
    private static void beforeTheFirstOfAllIsNoSummer() {
        ZoneClock north = Check.clockWith(1, Check.BERLIN);
        long begin = Check.at(1970, 3, 29, 1, 0);
        Check.due(0, "at 0", () -> north.field(1, 0L, 8));
        Check.due(0, "before the first beginning", () -> north.field(1, begin - 1, 8));
        Check.due(1, "at the first beginning", () -> north.field(1, begin, 8));
        ZoneClock south = Check.clockWith(1, Check.LORD_HOWE);
        long end = Check.at(1970, 4, 5, 2, 0) - 660 * MINUTE;
        Check.due(0, "before the first end", () -> south.field(1, end - 1, 8));
        Check.due(0, "at the first end", () -> south.field(1, end, 8));
        Check.dueOnce(south, 1, end + 630 * MINUTE, end);
        Check.due(1, "behind the first beginning", () -> south.field(1, Check.at(1970, 12, 1, 0, 0), 8));
        Check.due(1, "up to the second end", () -> south.field(1, Check.at(1971, 4, 3, 14, 59), 8));
        Check.due(0, "at the second end", () -> south.field(1, Check.at(1971, 4, 3, 15, 0), 8));
    }

    private static void behindTheLastOfAllItStays() {
        ZoneClock south = Check.clockWith(4, Check.LORD_HOWE);
        Check.due(1, "summer stays", () -> south.field(4, Check.LAST_TIME, 8));
        Check.due(Check.LAST_TIME + 660 * MINUTE, "local in 2300", () -> south.local(4, Check.LAST_TIME));
        ZoneClock north = Check.clockWith(4, Check.BERLIN);
        Check.due(0, "no summer stays", () -> north.field(4, Check.LAST_TIME, 8));
        Check.due(Check.LAST_TIME + HOUR, "local in 2300", () -> north.local(4, Check.LAST_TIME));
    }

    // "No ZONE was told: +0"
    private static void noZoneWasTold() {
        ZoneClock clock = Check.clockWith(3, Check.BERLIN);
        for (int z = 0; z < 8; z++) {
            Witness.dueZone("one zone told", clock, z, z == 3 ? Check.BERLIN : "+0");
        }
    }

    private static void callsThatAnswerChangeNothing() {
        ZoneClock clock = Witness.clock(Witness.TAPE);
        for (boolean other : new boolean[] {false, true}) {
            Check.due(120, "field 7", () -> clock.field(1, 1720000000000L, 7));
            Check.due(1, "many", () -> clock.many(1, 1720000000000L));
            Check.due(1720000000000L - 2 * HOUR, "universal", () -> clock.universal(1, 1720000000000L, other));
            Check.due(1720000000000L + 2 * HOUR, "local", () -> clock.local(1, 1720000000000L));
            Check.due(other ? Check.at(2024, 3, 31, 1, 0) : Check.at(2024, 10, 27, 1, 0), "change",
                    () -> clock.change(1, 1720000000000L, other));
            Check.due(Witness.PLACE, "place", clock::place);
        }
        Witness.dueUnchanged("calls that answer", clock, Witness.TAPE);
    }
}
