/** Promise 7, universal, a method for each sentence and edge; ManyTest has it beside many. */
public final class UniversalTest {
    private static final long HOUR = Check.HOUR;

    public static void main(String[] args) {
        firstOfTwo();
        lastOfTwo();
        onlyOneIsFirstAndLast();
        mayBeBelow0();
        mayBeBeyondTheEndOfTime();
        noneThrowsAndChangesNothing();
        refusesWhatIsOutOfRangeAndChangesNothing();
        outOfRangeComesBeforeNone();
        isTheWayBackFromLocal();
        Check.done();
    }

    // "The first ... of those times"
    private static void firstOfTwo() {
        ZoneClock clock = Check.clockWith(1, Check.BERLIN);
        long twice = Check.at(2024, 10, 27, 2, 0);
        Check.due(twice - 2 * HOUR, "first", () -> clock.universal(1, twice, false));
        Check.due(twice - HOUR - 1, "first of the last", () -> clock.universal(1, twice + HOUR - 1, false));
        Check.due(twice, "first behind them", () -> clock.universal(1, twice + HOUR, false));
    }

    // "(later: the last)"
    private static void lastOfTwo() {
        ZoneClock clock = Check.clockWith(1, Check.BERLIN);
        long twice = Check.at(2024, 10, 27, 2, 0);
        Check.due(twice - 2 * HOUR - 1, "last before them", () -> clock.universal(1, twice - 1, true));
        Check.due(twice - HOUR, "last", () -> clock.universal(1, twice, true));
        Check.due(twice - 1, "last of the last", () -> clock.universal(1, twice + HOUR - 1, true));
    }

    private static void onlyOneIsFirstAndLast() {
        ZoneClock clock = Check.clockWith(1, Check.BERLIN);
        for (boolean later : new boolean[] {false, true}) {
            Check.due(Check.at(2023, 12, 31, 23, 0), "winter",
                    () -> clock.universal(1, Check.at(2024, 1, 1, 0, 0), later));
            Check.due(Check.at(2024, 6, 30, 22, 0), "summer",
                    () -> clock.universal(1, Check.at(2024, 7, 1, 0, 0), later));
            Check.due(12345L, "no summer", () -> clock.universal(0, 12345L, later));
        }
    }

    // "(it may be below 0 ...)"
    private static void mayBeBelow0() {
        ZoneClock plain = Check.clockWith(0, "+840");
        Check.due(-14 * HOUR, "below 0", () -> plain.universal(0, 0L, false));
        Check.due(-1L, "one below 0", () -> plain.universal(0, 14 * HOUR - 1, true));
        Check.due(0L, "0", () -> plain.universal(0, 14 * HOUR, true));
        // Summer on the first of January 1970 (a Thursday) from 0:00 to 10:00, all before universal 1970.
        ZoneClock summer = Check.clockWith(0, "+840 120 M1.1.4/0 M1.1.4/600");
        Check.due(-8 * HOUR, "first of two below 0", () -> summer.universal(0, 8 * HOUR, false));
        Check.due(-6 * HOUR, "last of two below 0", () -> summer.universal(0, 8 * HOUR, true));
    }

    // "(... or beyond the end of TIME)"
    private static void mayBeBeyondTheEndOfTime() {
        ZoneClock plain = Check.clockWith(0, "-840");
        Check.due(Check.LAST_TIME + 14 * HOUR, "beyond", () -> plain.universal(0, Check.LAST_TIME, false));
        Check.due(Check.LAST_TIME + 1, "one beyond", () -> plain.universal(0, Check.LAST_TIME - 14 * HOUR + 1, true));
        ZoneClock summer = Check.clockWith(0, "-840 60 M6.1.0/0 M12.5.0/1439");
        long twice = Check.at(2299, 12, 31, 23, 0);
        Check.due(twice + 13 * HOUR, "first of two beyond", () -> summer.universal(0, twice, false));
        Check.due(twice + 14 * HOUR, "last of two beyond", () -> summer.universal(0, twice, true));
    }

    // "there is none: NoSuchElementException", and "A call that throws changes nothing"
    private static void noneThrowsAndChangesNothing() {
        long skipped = Check.at(2024, 3, 31, 2, 0);
        for (boolean later : new boolean[] {false, true}) {
            Witness.dueRefused(Check.NO_TIME, "universal of the first skipped",
                    clock -> clock.universal(1, skipped, later));
            Witness.dueRefused(Check.NO_TIME, "universal of the last skipped",
                    clock -> clock.universal(1, skipped + HOUR - 1, later));
            // Zone 6 of the witness skips the first two hours of LOCAL 1970.
            Witness.dueRefused(Check.NO_TIME, "universal of a skipped 0", clock -> clock.universal(6, 0L, later));
        }
    }

    // "IllegalArgumentException: a number out of range", and "A call that throws changes nothing"
    private static void refusesWhatIsOutOfRangeAndChangesNothing() {
        Check.dueRefusedOutOfRange("first universal", (clock, z, t) -> clock.universal(z, t, false));
        Check.dueRefusedOutOfRange("last universal", (clock, z, t) -> clock.universal(z, t, true));
    }

    // "What is thrown, in this order"
    private static void outOfRangeComesBeforeNone() {
        long skipped = Check.at(2024, 3, 31, 2, 0);
        Witness.dueRefused(Check.REFUSED, "universal of zone 8", clock -> clock.universal(8, skipped, false));
        // Summer begins with the last minute of 2299 and skips what is behind the last TIME.
        ZoneClock late = Check.clockWith(0, "-840 120 M12.5.0/1439 M6.1.0/0");
        Check.due(Check.NO_TIME, "the last that may be told", () -> late.universal(0, Check.LAST_TIME, false));
        Check.dueRefused("one more", () -> late.universal(0, Check.LAST_TIME + 1, false));
    }

    private static void isTheWayBackFromLocal() {
        String[] texts = {Check.BERLIN, Check.NEW_YORK, Check.LORD_HOWE, "+0", "-1 1 M1.1.0/0 M1.1.1/0"};
        for (String text : texts) {
            ZoneClock clock = Check.clockWith(0, text);
            for (int i = 0; i < 100; i++) {
                long t = 90000000000L * (i + 1) + 123L;
                long local = clock.local(0, t);
                boolean isLast = clock.universal(0, local, false) != t;
                Check.due(t, "universal of local at " + t, () -> clock.universal(0, local, isLast));
            }
        }
    }
}
