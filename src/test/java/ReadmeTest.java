/** The example of README.md, with the answers that it tells. */
public final class ReadmeTest {
    public static void main(String[] args) {
        ZoneClock clock = new ZoneClock();
        clock.feed(0x2b363020, 0x3630204d, 0x332e352e, 0x302f3132, 0x30204d31);
        clock.feed(0x302e352e, 0x302f3138, 0x30000000, 0, 0);
        clock.end(29);
        Check.due("told", "zone", () -> Check.zone(clock, 1));
        Check.due(1720007200000L, "local", () -> clock.local(1, 1720000000000L));
        Check.due(11, "hour", () -> clock.field(1, 1720000000000L, 2));
        Check.due(2, "many", () -> clock.many(1, 1729995300000L));
        Check.due(1729991700000L, "universal", () -> clock.universal(1, 1729995300000L, true));
        Check.due(0, "many", () -> clock.many(1, 1711851300000L));
        Check.due(1729990800000L, "change", () -> clock.change(1, 1720000000000L, false));
        Check.done();
    }
}
