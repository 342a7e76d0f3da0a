/** Promise 5, local, a method for each sentence and edge. */
public final class LocalTest {
    private static final long HOUR = Check.HOUR;

    public static void main(String[] args) {
        turnsAtTheBeginningAndAtTheEnd();
        firstAndLastTimeThatMayBe();
        localMayLieOutsideOfTime();
        millisecondsAreKept();
        refusesWhatIsOutOfRangeAndChangesNothing();
        Check.done();
    }

    // "The LOCAL time at t"
    private static void turnsAtTheBeginningAndAtTheEnd() {
        ZoneClock clock = Check.clockWith(1, Check.NEW_YORK);
        long begin = Check.at(2024, 3, 10, 7, 0);
        Check.due(begin - 1 - 5 * HOUR, "before the beginning", () -> clock.local(1, begin - 1));
        Check.due(begin - 4 * HOUR, "at the beginning", () -> clock.local(1, begin));
        long end = Check.at(2024, 11, 3, 6, 0);
        Check.due(end - 1 - 4 * HOUR, "before the end", () -> clock.local(1, end - 1));
        Check.due(end - 5 * HOUR, "at the end", () -> clock.local(1, end));
    }

    // "t, a TIME": 0 .. 10413791999999
    private static void firstAndLastTimeThatMayBe() {
        ZoneClock clock = Check.clockWith(1, Check.BERLIN);
        for (int i = 0; i < 8; i++) {
            int z = i;
            long offset = z == 1 ? HOUR : 0L;
            Check.due(offset, "local at 0 in zone " + z, () -> clock.local(z, 0L));
            Check.due(Check.LAST_TIME + offset, "local at the last time in zone " + z,
                    () -> clock.local(z, Check.LAST_TIME));
        }
    }

    private static void localMayLieOutsideOfTime() {
        Check.due(-14 * HOUR, "before 1970", () -> Check.clockWith(0, "-840").local(0, 0L));
        Check.due(-1L, "one before 1970", () -> Check.clockWith(0, "-1").local(0, 59999L));
        Check.due(Check.LAST_TIME + 14 * HOUR, "behind 2299",
                () -> Check.clockWith(0, "+840").local(0, Check.LAST_TIME));
        // Summer since the first minute of LOCAL 1970 (a Thursday), 14 hours before universal 1970.
        ZoneClock early = Check.clockWith(0, "+840 120 M1.1.4/0 M12.5.0/0");
        Check.due(16 * HOUR, "in summer since before 1970", () -> early.local(0, 0L));
        // Summer from the first Sunday of December 2299 on, and no end behind it.
        ZoneClock late = Check.clockWith(0, "+840 120 M12.1.0/0 M6.1.0/0");
        Check.due(Check.LAST_TIME + 16 * HOUR, "in summer behind 2299", () -> late.local(0, Check.LAST_TIME));
    }

    private static void millisecondsAreKept() {
        ZoneClock clock = Check.clockWith(0, "-1");
        for (long t : new long[] {1L, 999L, 1000L, 60001L, 1720000000123L}) {
            Check.due(t - Check.MINUTE, "local at " + t, () -> clock.local(0, t));
        }
    }

    // "IllegalArgumentException: a number out of range", and "A call that throws changes nothing"
    private static void refusesWhatIsOutOfRangeAndChangesNothing() {
        Check.dueRefusedOutOfRange("local", (clock, z, t) -> clock.local(z, t));
    }
}
