/** Promise 3, end, a method for each sentence and edge. */
public final class EndTest {
    public static void main(String[] args) {
        keepsTheFirstBytes();
        whatWasCutOffIsGone();
        nothingAndAllMayBeKept();
        fullTapeMayBeKept();
        refusesWhatIsOutOfRangeAndChangesNothing();
        refusesOnAnEmptyTape();
        Check.done();
    }

    // "The TAPE keeps its first n bytes"; "Answers n"
    private static void keepsTheFirstBytes() {
        ZoneClock clock = new ZoneClock();
        Check.tell(clock, "+12345");
        Check.due(4, "end(4)", () -> clock.end(4));
        Check.due("told", "zone", () -> Check.zone(clock, 0));
        Check.due(123, "field 7", () -> clock.field(0, 0L, 7));
    }

    private static void whatWasCutOffIsGone() {
        ZoneClock clock = new ZoneClock();
        Check.tell(clock, "+12345");
        Check.due(2, "end(2)", () -> clock.end(2));
        Check.dueRefused("end(3) behind end(2)", () -> clock.end(3));
        Check.dueRefused("end(6) behind end(2)", () -> clock.end(6));
        Check.due(2, "end(2) again", () -> clock.end(2));
        Check.due(1, "end(1)", () -> clock.end(1));
        Check.dueRefused("end(2) behind end(1)", () -> clock.end(2));
        Check.due(Check.BROKEN, "zone of the sign alone", () -> Check.zone(clock, 0));
        Check.due(1, "place", clock::place);
    }

    // "n 0 .. its length"
    private static void nothingAndAllMayBeKept() {
        ZoneClock clock = new ZoneClock();
        Check.tell(clock, "+123");
        Check.due(4, "end of its length", () -> clock.end(4));
        Check.due("told", "zone of all of it", () -> Check.zone(clock, 0));
        Check.due(123, "field 7", () -> clock.field(0, 0L, 7));
        Check.tell(clock, "+456");
        Check.due(0, "end(0)", () -> clock.end(0));
        Check.due(0, "end(0) of an empty tape", () -> clock.end(0));
        Check.due(Check.BROKEN, "zone of nothing", () -> Check.zone(clock, 0));
        Check.due(0, "place", clock::place);
    }

    private static void fullTapeMayBeKept() {
        ZoneClock clock = new ZoneClock();
        for (int i = 0; i < 20; i++) {
            clock.feed(0, 0, 0, 0, 0);
        }
        Check.dueRefused("end(401)", () -> clock.end(401));
        Check.due(400, "end(400)", () -> clock.end(400));
        Check.due(399, "end(399)", () -> clock.end(399));
        Check.dueRefused("end(400) behind end(399)", () -> clock.end(400));
    }

    // "IllegalArgumentException: a number out of range", and "A call that throws changes nothing"
    private static void refusesWhatIsOutOfRangeAndChangesNothing() {
        int length = Witness.TAPE.length();
        for (int n : new int[] {-1, length + 1, length + 2, 40, 400, 401, Integer.MAX_VALUE, Integer.MIN_VALUE}) {
            Witness.dueRefused(Check.REFUSED, "end(" + n + ")", clock -> clock.end(n));
        }
    }

    private static void refusesOnAnEmptyTape() {
        for (int n : new int[] {-1, 1, 20}) {
            Witness.dueRefused(Check.REFUSED, "end(" + n + ") of nothing", "", clock -> clock.end(n));
        }
    }
}
