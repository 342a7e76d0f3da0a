/** Promise 4, zone, a method for each sentence and edge; which texts are broken, and where, is ZoneTextTest's. */
public final class ZoneTest {
    private static final int[] NO_ZONES = {-1, 8, 9, 256, Integer.MAX_VALUE, Integer.MIN_VALUE};
    private static final long SUMMER = 1720000000000L;

    public static void main(String[] args) {
        zonesAre0To7();
        zoneOutOfRangeIsRefusedAndChangesNothing();
        zoneOutOfRangeIsRefusedBeforeTheTextIsRead();
        tapeIsTheZoneFromNowOn();
        plainTextTakesSummerAway();
        otherZonesStayAsTheyWere();
        wholeTextLeavesTheTapeEmpty();
        brokenTextLeavesTheTapeEmpty();
        brokenTextLeavesEveryZoneAsItWas();
        brokenTextLeavesAnUntoldZonePlain();
        textAfterABrokenOneIsReadWhole();
        Check.done();
    }

    // "z 0 .. 7 (so for all)"
    private static void zonesAre0To7() {
        ZoneClock clock = new ZoneClock();
        for (int i = 0; i < 8; i++) {
            int z = i;
            Check.tellZone(clock, z, "+" + z + " 60 M" + (z + 1) + ".1.0/0 M12.1.0/" + z);
        }
        for (int i = 0; i < 8; i++) {
            int z = i;
            Check.due(z, "field 7 of zone " + z, () -> clock.field(z, 0L, 7));
            Check.due(z + 1, "month of the first beginning in zone " + z,
                    () -> clock.field(z, clock.change(z, 0L, false), 4));
        }
    }

    // "IllegalArgumentException: a number out of range"; the tape is not read: "but for a number out of range"
    private static void zoneOutOfRangeIsRefusedAndChangesNothing() {
        for (int z : NO_ZONES) {
            Witness.dueRefused(Check.REFUSED, "zone(" + z + ")", clock -> Check.zone(clock, z));
        }
    }

    // "What is thrown, in this order"
    private static void zoneOutOfRangeIsRefusedBeforeTheTextIsRead() {
        for (int z : NO_ZONES) {
            Witness.dueRefused(Check.REFUSED, "zone(" + z + ") of a broken text", "+12x",
                    clock -> Check.zone(clock, z));
            Witness.dueRefused(Check.REFUSED, "zone(" + z + ") of nothing", "", clock -> Check.zone(clock, z));
        }
    }

    // "The TAPE is ZONE z from now on"
    private static void tapeIsTheZoneFromNowOn() {
        ZoneClock clock = Check.clockWith(2, Check.BERLIN);
        Witness.dueZone("the first text", clock, 2, Check.BERLIN);
        Check.tell(clock, Check.NEW_YORK);
        Witness.dueZone("a text that is only fed", clock, 2, Check.BERLIN);
        Check.due("told", "zone", () -> Check.zone(clock, 2));
        Check.due(SUMMER - 4 * Check.HOUR, "local in the second text's summer", () -> clock.local(2, SUMMER));
        Check.due(Check.at(2024, 3, 10, 7, 0), "its beginning", () -> clock.change(2, SUMMER, true));
        Check.due(Check.at(2024, 11, 3, 6, 0), "its end", () -> clock.change(2, SUMMER, false));
        Check.tellZone(clock, 2, Check.BERLIN);
        Witness.dueZone("the first text again", clock, 2, Check.BERLIN);
    }

    private static void plainTextTakesSummerAway() {
        ZoneClock clock = Check.clockWith(0, Check.BERLIN);
        for (int i = 0; i < 2; i++) {
            int z = i;
            Check.tellZone(clock, z, "-5");
            Check.due(-5, "field 7 of zone " + z, () -> clock.field(z, SUMMER, 7));
            Check.due(0, "field 8 of zone " + z, () -> clock.field(z, SUMMER, 8));
            Check.due(-1L, "change of zone " + z, () -> clock.change(z, SUMMER, false));
            Check.due(-1L, "change back of zone " + z, () -> clock.change(z, SUMMER, true));
            Check.dueOnce(clock, z, SUMMER, SUMMER + 5 * Check.MINUTE);
        }
    }

    private static void otherZonesStayAsTheyWere() {
        for (int i = 0; i < 8; i++) {
            int z = i;
            ZoneClock clock = Witness.clock(Witness.TAPE);
            Check.due("told", "zone " + z, () -> Check.zone(clock, z));
            Witness.dueZonesBut(z, "zone(" + z + ")", clock);
            Witness.dueZone("zone(" + z + ")", clock, z, Witness.TAPE);
        }
    }

    // "a call that reads THE TAPE leaves it empty"
    private static void wholeTextLeavesTheTapeEmpty() {
        ZoneClock clock = Check.clockWith(0, Check.BERLIN);
        Check.dueRefused("end(1) behind zone", () -> clock.end(1));
        Check.due(0, "end(0) behind zone", () -> clock.end(0));
        Check.due(Check.BROKEN, "zone of the tape that was read", () -> Check.zone(clock, 0));
        Check.due(0, "place of the tape that was read", clock::place);
        Witness.dueZone("the empty tape", clock, 0, Check.BERLIN);
    }

    // "also if it throws"
    private static void brokenTextLeavesTheTapeEmpty() {
        for (String text : new String[] {"x", "+841", "+60 ", "+60 60 M3.5.0/120 M10.5.0/1440"}) {
            ZoneClock clock = new ZoneClock();
            Check.tell(clock, text);
            Check.due(Check.BROKEN, "zone of '" + text + "'", () -> Check.zone(clock, 0));
            Check.dueRefused("end(1) behind '" + text + "'", () -> clock.end(1));
            Check.due(20, "feed behind '" + text + "'", () -> clock.feed(0, 0, 0, 0, 0));
        }
    }

    // "broken: UnsupportedOperationException"; "ZONE z stays as it was"
    private static void brokenTextLeavesEveryZoneAsItWas() {
        String[] texts = {"", "x", "-1 ", "-841", "-1 30", "-1 30 M1.1.1/1", "-1 30 M1.1.1/1 M2.2.2/",
            "-1 30 M1.1.1/1 M2.2.2/1440", "-1 30 M1.1.1/1 M2.2.2/2 ", "-1 30 M1.1.1/1 M2.2.2/2x"};
        for (String text : texts) {
            for (int i = 0; i < 8; i++) {
                int z = i;
                ZoneClock clock = Witness.clock(text);
                Check.due(Check.BROKEN, "zone(" + z + ") of '" + text + "'", () -> Check.zone(clock, z));
                Witness.dueZones("zone(" + z + ") of '" + text + "'", clock);
            }
        }
    }

    private static void brokenTextLeavesAnUntoldZonePlain() {
        ZoneClock clock = new ZoneClock();
        Check.tell(clock, "-1 30 M1.1.1/1 M12.2.2/2 ");
        Check.due(Check.BROKEN, "zone", () -> Check.zone(clock, 3));
        Witness.dueZone("a broken text", clock, 3, "+0");
    }

    private static void textAfterABrokenOneIsReadWhole() {
        ZoneClock clock = new ZoneClock();
        Check.tell(clock, "-1 30 M1.1.1/1 M12.2.2/2 ");
        Check.due(Check.BROKEN, "zone", () -> Check.zone(clock, 3));
        Check.tellZone(clock, 3, "+9");
        Witness.dueZone("a plain text behind a broken one", clock, 3, "+9");
        Check.tell(clock, "-1 30 M1.1.1/1 M12.2.2/2 ");
        Check.due(Check.BROKEN, "zone", () -> Check.zone(clock, 3));
        Check.tellZone(clock, 3, Check.BERLIN);
        Witness.dueZone("a text with summer behind a broken one", clock, 3, Check.BERLIN);
        Check.due(-1, "place", clock::place);
    }
}
