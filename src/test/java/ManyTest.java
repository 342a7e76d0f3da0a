/** Promise 6, many, a method for each sentence and edge (and universal beside it, where the times are known). */
public final class ManyTest {
    private static final long HOUR = Check.HOUR;
    private static final long MINUTE = Check.MINUTE;

    public static void main(String[] args) {
        noneOfWhatIsSkipped();
        twoOfWhatComesTwice();
        oneOfAllElse();
        halfAnHourInTheSouth();
        firstAndLastLocalThatMayBe();
        timesBefore1970AreCounted();
        timesBehind2299AreCounted();
        skippedAtTheEndsOfTime();
        summerShorterThanWhatItSkips();
        winterShorterThanWhatComesTwice();
        refusesWhatIsOutOfRangeAndChangesNothing();
        Check.done();
    }

    // "how many times ... have that LOCAL time: 0 or more"
    private static void noneOfWhatIsSkipped() {
        ZoneClock clock = Check.clockWith(1, Check.NEW_YORK);
        long skipped = Check.at(2024, 3, 10, 2, 0);
        Check.dueOnce(clock, 1, skipped - 1, skipped - 1 + 5 * HOUR);
        Check.dueNone(clock, 1, skipped);
        Check.dueNone(clock, 1, skipped + HOUR / 2);
        Check.dueNone(clock, 1, skipped + HOUR - 1);
        Check.dueOnce(clock, 1, skipped + HOUR, skipped + 5 * HOUR);
    }

    private static void twoOfWhatComesTwice() {
        ZoneClock clock = Check.clockWith(1, Check.NEW_YORK);
        long twice = Check.at(2024, 11, 3, 1, 0);
        Check.dueOnce(clock, 1, twice - 1, twice - 1 + 4 * HOUR);
        Check.dueTwice(clock, 1, twice, twice + 4 * HOUR, twice + 5 * HOUR);
        Check.dueTwice(clock, 1, twice + HOUR / 2, twice + 9 * HOUR / 2, twice + 11 * HOUR / 2);
        Check.dueTwice(clock, 1, twice + HOUR - 1, twice - 1 + 5 * HOUR, twice - 1 + 6 * HOUR);
        Check.dueOnce(clock, 1, twice + HOUR, twice + 6 * HOUR);
    }

    private static void oneOfAllElse() {
        ZoneClock clock = Check.clockWith(1, Check.BERLIN);
        Check.dueOnce(clock, 1, Check.at(2024, 1, 1, 0, 0), Check.at(2023, 12, 31, 23, 0));
        Check.dueOnce(clock, 1, Check.at(2024, 7, 1, 0, 0), Check.at(2024, 6, 30, 22, 0));
        Check.dueOnce(clock, 2, Check.at(2024, 7, 1, 0, 0), Check.at(2024, 7, 1, 0, 0));
    }

    private static void halfAnHourInTheSouth() {
        ZoneClock clock = Check.clockWith(3, Check.LORD_HOWE);
        long skipped = Check.at(2024, 10, 6, 2, 0);
        Check.dueOnce(clock, 3, skipped - 1, skipped - 1 - 630 * MINUTE);
        Check.dueNone(clock, 3, skipped);
        Check.dueNone(clock, 3, skipped + 30 * MINUTE - 1);
        Check.dueOnce(clock, 3, skipped + 30 * MINUTE, skipped - 630 * MINUTE);
        long twice = Check.at(2024, 4, 7, 1, 30);
        Check.dueOnce(clock, 3, twice - 1, twice - 1 - 660 * MINUTE);
        Check.dueTwice(clock, 3, twice, twice - 660 * MINUTE, twice - 630 * MINUTE);
        Check.dueTwice(clock, 3, twice + 30 * MINUTE - 1, twice - 1 - 630 * MINUTE, twice - 1 - 600 * MINUTE);
        Check.dueOnce(clock, 3, twice + 30 * MINUTE, twice - 600 * MINUTE);
    }

    // "local 0 .. 10413791999999"
    private static void firstAndLastLocalThatMayBe() {
        ZoneClock clock = Check.clockWith(0, Check.BERLIN);
        Check.dueOnce(clock, 0, 0L, -HOUR);
        Check.dueOnce(clock, 0, Check.LAST_TIME, Check.LAST_TIME - HOUR);
        Check.dueOnce(clock, 7, 0L, 0L);
        Check.dueOnce(clock, 7, Check.LAST_TIME, Check.LAST_TIME);
    }

    // "(of all, also before 1970 ...)"
    private static void timesBefore1970AreCounted() {
        ZoneClock plain = Check.clockWith(0, "+840");
        Check.dueOnce(plain, 0, 0L, -14 * HOUR);
        Check.dueOnce(plain, 0, 14 * HOUR - 1, -1L);
        Check.dueOnce(plain, 0, 14 * HOUR, 0L);
        // Summer on the first of January 1970 (a Thursday) from 0:00 to 10:00, all before universal 1970.
        ZoneClock clock = Check.clockWith(0, "+840 120 M1.1.4/0 M1.1.4/600");
        Check.dueOnce(clock, 0, 2 * HOUR, -14 * HOUR);
        Check.dueOnce(clock, 0, 8 * HOUR - 1, -8 * HOUR - 1);
        Check.dueTwice(clock, 0, 8 * HOUR, -8 * HOUR, -6 * HOUR);
        Check.dueTwice(clock, 0, 10 * HOUR - 1, -6 * HOUR - 1, -4 * HOUR - 1);
        Check.dueOnce(clock, 0, 10 * HOUR, -4 * HOUR);
        // To 17:00: the first of both times is before 1970, the other one not.
        ZoneClock half = Check.clockWith(0, "+840 120 M1.1.4/0 M1.1.4/1020");
        Check.dueTwice(half, 0, 15 * HOUR, -HOUR, HOUR);
    }

    // "(of all, also ... behind 2299)"
    private static void timesBehind2299AreCounted() {
        ZoneClock plain = Check.clockWith(0, "-840");
        Check.dueOnce(plain, 0, Check.LAST_TIME, Check.LAST_TIME + 14 * HOUR);
        Check.dueOnce(plain, 0, Check.LAST_TIME - 14 * HOUR, Check.LAST_TIME);
        Check.dueOnce(plain, 0, Check.LAST_TIME - 14 * HOUR + 1, Check.LAST_TIME + 1);
        // Summer ends on 31 December 2299 (a Sunday), 23:59, which is 2300 in universal time.
        ZoneClock clock = Check.clockWith(0, "-840 60 M6.1.0/0 M12.5.0/1439");
        long twice = Check.at(2299, 12, 31, 22, 59);
        Check.dueOnce(clock, 0, twice - 1, twice - 1 + 13 * HOUR);
        Check.dueTwice(clock, 0, twice, twice + 13 * HOUR, twice + 14 * HOUR);
        Check.dueTwice(clock, 0, twice + HOUR - 1, twice - 1 + 14 * HOUR, twice - 1 + 15 * HOUR);
        Check.dueOnce(clock, 0, Check.LAST_TIME, Check.LAST_TIME + 14 * HOUR);
        // Summer stays behind 2299 in the south.
        ZoneClock south = Check.clockWith(0, "-840 60 M10.1.0/0 M4.1.0/0");
        Check.dueOnce(south, 0, Check.LAST_TIME, Check.LAST_TIME + 13 * HOUR);
    }

    private static void skippedAtTheEndsOfTime() {
        ZoneClock early = Check.clockWith(0, "+840 120 M1.1.4/0 M12.5.0/0");
        Check.dueNone(early, 0, 0L);
        Check.dueNone(early, 0, 2 * HOUR - 1);
        Check.dueOnce(early, 0, 2 * HOUR, -14 * HOUR);
        ZoneClock late = Check.clockWith(0, "-840 120 M12.5.0/1439 M6.1.0/0");
        Check.dueOnce(late, 0, Check.LAST_TIME - MINUTE, Check.LAST_TIME - MINUTE + 14 * HOUR);
        Check.dueNone(late, 0, Check.LAST_TIME - MINUTE + 1);
        Check.dueNone(late, 0, Check.LAST_TIME);
    }

    /** A minute of summer, that skips an hour and then brings the hour back. */
    private static void summerShorterThanWhatItSkips() {
        ZoneClock clock = Check.clockWith(0, "+0 60 M6.1.0/120 M6.1.0/181");
        long begin = Check.at(2024, 6, 2, 2, 0);
        Check.dueOnce(clock, 0, begin - 1, begin - 1);
        // Skipped by the beginning, and not brought back by an end a minute later.
        Check.dueNone(clock, 0, begin);
        Check.dueNone(clock, 0, begin + MINUTE - 1);
        Check.dueOnce(clock, 0, begin + MINUTE, begin + MINUTE);
        Check.dueTwice(clock, 0, begin + HOUR, begin, begin + HOUR);
        Check.dueTwice(clock, 0, begin + HOUR + MINUTE - 1, begin + MINUTE - 1, begin + HOUR + MINUTE - 1);
        Check.dueOnce(clock, 0, begin + HOUR + MINUTE, begin + HOUR + MINUTE);
    }

    /** An hour without summer between two: what comes twice and what is skipped lie side by side. */
    private static void winterShorterThanWhatComesTwice() {
        ZoneClock clock = Check.clockWith(0, "+0 60 M6.1.0/120 M6.1.0/120");
        long begin = Check.at(2024, 6, 2, 2, 0);
        Check.dueOnce(clock, 0, begin - HOUR - 1, begin - 2 * HOUR - 1);
        Check.dueTwice(clock, 0, begin - HOUR, begin - 2 * HOUR, begin - HOUR);
        Check.dueTwice(clock, 0, begin - 1, begin - HOUR - 1, begin - 1);
        Check.dueNone(clock, 0, begin);
        Check.dueNone(clock, 0, begin + HOUR - 1);
        Check.dueOnce(clock, 0, begin + HOUR, begin);
    }

    // "IllegalArgumentException: a number out of range", and "A call that throws changes nothing"
    private static void refusesWhatIsOutOfRangeAndChangesNothing() {
        Check.dueRefusedOutOfRange("many", (clock, z, t) -> clock.many(z, t));
    }
}
