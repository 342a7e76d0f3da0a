/**
 * Sees that a call changes nothing: it is made on a clock with eight different zones, a PLACE that
 * was told and a text on the tape, and then all of that is looked at, beside a clock without the call.
 */
final class Witness {
    static final int PLACE = 3;
    static final String TAPE = "-77 33 M2.1.1/1 M8.3.4/1000";

    private static final String[] ZONES = {"+1 60 M5.1.0/0 M9.1.0/0", Check.BERLIN, Check.NEW_YORK,
        Check.LORD_HOWE, "+840", "-840 120 M6.1.0/0 M12.5.0/1439", "+840 120 M1.1.4/0 M12.5.0/0", "-7"};
    private static final long[] TIMES = {0L, 1705000000000L, 1720000000000L, Check.LAST_TIME};

    private Witness() {
    }

    static ZoneClock clock(String tape) {
        ZoneClock clock = new ZoneClock();
        for (int z = 0; z < ZONES.length; z++) {
            Check.tellZone(clock, z, ZONES[z]);
        }
        Check.tell(clock, "+1 x");
        Check.due(Check.BROKEN, "zone of the witness", () -> Check.zone(clock, 0));
        Check.tell(clock, tape);
        return clock;
    }

    static void dueRefused(String want, String name, Check.Act act) {
        dueRefused(want, name, TAPE, act);
    }

    static void dueRefused(String want, String name, String tape, Check.Act act) {
        ZoneClock clock = clock(tape);
        Check.due(want, name, () -> act.on(clock));
        dueUnchanged(name, clock, tape);
    }

    static void dueUnchanged(String name, ZoneClock clock, String tape) {
        Check.due(PLACE, "place behind " + name, clock::place);
        dueZones(name, clock);
        dueTape(name, clock, tape);
    }

    /** All eight zones, or all but one, are as they were. */
    static void dueZones(String name, ZoneClock clock) {
        for (int z = 0; z < ZONES.length; z++) {
            dueZone(name, clock, z, ZONES[z]);
        }
    }

    static void dueZonesBut(int other, String name, ZoneClock clock) {
        for (int z = 0; z < ZONES.length; z++) {
            if (z != other) {
                dueZone(name, clock, z, ZONES[z]);
            }
        }
    }

    static void dueZone(String name, ZoneClock clock, int z, String text) {
        Check.due(answers(Check.clockWith(z, text), z), "zone " + z + " behind " + name, () -> answers(clock, z));
    }

    /** The tape is that text: its length first, then what it makes of a zone. */
    static void dueTape(String name, ZoneClock clock, String text) {
        Check.dueRefused("a longer tape behind " + name, () -> clock.end(text.length() + 1));
        Check.due(text.length(), "the tape's length behind " + name, () -> clock.end(text.length()));
        ZoneClock other = new ZoneClock();
        Check.tell(other, text);
        String want = Check.answerOf(() -> Check.zone(other, 5));
        Check.due(want, "the tape behind " + name, () -> Check.zone(clock, 5));
        Check.due(other.place(), "the tape's place behind " + name, clock::place);
        if (want.equals("told")) {
            dueZone(name, clock, 5, text);
        }
    }

    private static String answers(ZoneClock clock, int z) {
        StringBuilder all = new StringBuilder();
        for (long t : TIMES) {
            all.append(clock.local(z, t)).append(' ').append(clock.change(z, t, false)).append(' ');
            all.append(clock.change(z, t, true)).append(' ');
        }
        return all.toString();
    }
}
