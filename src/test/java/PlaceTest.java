/** Promise 10, place, a method for each sentence and edge; the PLACE of each broken text is ZoneTextTest's. */
public final class PlaceTest {
    public static void main(String[] args) {
        noneBeforeTheFirstZone();
        placeOfTheLatestZone();
        noneIfTheLatestZoneWasNotBroken();
        zoneOutOfRangeIsPassedOver();
        otherCallsLeaveIt();
        firstAndLastPlaceThatMayBe();
        placeIsOneOfTheWholeObject();
        Check.done();
    }

    private static void dueBroken(ZoneClock clock, int z, String text, int place) {
        Check.tell(clock, text);
        Check.due(Check.BROKEN, "zone of '" + text + "'", () -> Check.zone(clock, z));
        Check.due(place, "place of '" + text + "'", clock::place);
        Check.due(place, "place of '" + text + "' again", clock::place);
    }

    // "-1 ... before"
    private static void noneBeforeTheFirstZone() {
        ZoneClock clock = new ZoneClock();
        Check.due(-1, "place of a new object", clock::place);
        Check.tell(clock, "x");
        Check.due(-1, "place of a text that was not read", clock::place);
        Check.dueRefused("zone(8)", () -> Check.zone(clock, 8));
        Check.due(-1, "place behind a zone out of range alone", clock::place);
    }

    // "PLACE of the latest zone"
    private static void placeOfTheLatestZone() {
        ZoneClock clock = new ZoneClock();
        dueBroken(clock, 1, "+99 9", 5);
        dueBroken(clock, 1, "+x", 1);
        dueBroken(clock, 1, "+60 60 M1.1.0/0 M2.1.0/0 ", 24);
        dueBroken(clock, 1, "", 0);
        dueBroken(clock, 1, "+12345", 1);
    }

    // "-1 if it told none (it was not broken)"
    private static void noneIfTheLatestZoneWasNotBroken() {
        ZoneClock clock = new ZoneClock();
        dueBroken(clock, 1, "+99 9", 5);
        Check.tell(clock, "+99");
        Check.due(5, "place before the next zone", clock::place);
        Check.due("told", "zone", () -> Check.zone(clock, 1));
        Check.due(-1, "place of a whole text", clock::place);
        dueBroken(clock, 1, "-", 1);
        Check.tellZone(clock, 1, Check.BERLIN);
        Check.due(-1, "place of a whole text with summer", clock::place);
    }

    // "that was not out of range"
    private static void zoneOutOfRangeIsPassedOver() {
        ZoneClock clock = new ZoneClock();
        dueBroken(clock, 1, "+99 9", 5);
        for (int z : new int[] {-1, 8, Integer.MAX_VALUE, Integer.MIN_VALUE}) {
            Check.dueRefused("zone(" + z + ") of nothing", () -> Check.zone(clock, z));
            Check.due(5, "place behind zone(" + z + ") of nothing", clock::place);
            Check.tell(clock, "+1x");
            Check.dueRefused("zone(" + z + ") of a broken text", () -> Check.zone(clock, z));
            Check.due(5, "place behind zone(" + z + ") of a broken text", clock::place);
            Check.due(2, "end", () -> clock.end(2));
            Check.dueRefused("zone(" + z + ") of a whole text", () -> Check.zone(clock, z));
            Check.due(5, "place behind zone(" + z + ") of a whole text", clock::place);
            clock.end(0);
        }
        Check.tellZone(clock, 1, "+1");
        Check.dueRefused("zone(8)", () -> Check.zone(clock, 8));
        Check.due(-1, "place of the whole text before", clock::place);
    }

    private static void otherCallsLeaveIt() {
        ZoneClock clock = Check.clockWith(1, Check.BERLIN);
        dueBroken(clock, 1, "+99 9", 5);
        clock.feed(0, 0, 0, 0, 0);
        clock.end(3);
        clock.local(1, 0L);
        clock.many(1, 0L);
        clock.universal(1, 0L, false);
        clock.change(1, 0L, true);
        clock.field(1, 0L, 3);
        Check.due(5, "place behind calls of all others", clock::place);
        Check.dueRefused("end", () -> clock.end(4));
        Check.dueRefused("local", () -> clock.local(9, 0L));
        Check.due(Check.NO_TIME, "universal", () -> clock.universal(1, Check.at(2024, 3, 31, 2, 0), false));
        Check.due(5, "place behind refused calls", clock::place);
    }

    // "(from 0)"; "(its length at the end ...)"
    private static void firstAndLastPlaceThatMayBe() {
        ZoneClock clock = new ZoneClock();
        dueBroken(clock, 1, "", 0);
        dueBroken(clock, 1, "?", 0);
        dueBroken(clock, 1, "+1" + " ".repeat(397) + "?", 399);
        dueBroken(clock, 1, "+1" + " ".repeat(398), 400);
        dueBroken(clock, 1, "+" + "9".repeat(399), 1);
    }

    private static void placeIsOneOfTheWholeObject() {
        ZoneClock clock = new ZoneClock();
        dueBroken(clock, 1, "+99 9", 5);
        dueBroken(clock, 7, "+", 1);
        Check.tellZone(clock, 0, "+0");
        Check.due(-1, "place behind another zone", clock::place);
    }
}
