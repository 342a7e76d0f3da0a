/** Promises 2 and 3: feed and end. */
public final class TapeTest {
    public static void main(String[] args) {
        feedAnswersTheLengthUpTo400();
        feedMayComeToExactly400();
        fullTapeStaysAsItWas();
        highestByteComesFirst();
        endKeepsTheFirstBytes();
        endRefusesWhatIsNotThere();
        Check.done();
    }

    private static void feedAnswersTheLengthUpTo400() {
        ZoneClock clock = new ZoneClock();
        for (int i = 1; i <= 20; i++) {
            Check.due(20 * i, "feed " + i, () -> clock.feed(1, 2, 3, 4, 5));
        }
        Check.due("IndexOutOfBoundsException", "feed 21", () -> clock.feed(1, 2, 3, 4, 5));
        Check.due(400, "end(400) behind the refused feed", () -> clock.end(400));
        Check.due(381, "end(381)", () -> clock.end(381));
        Check.due("IndexOutOfBoundsException", "feed at 381", () -> clock.feed(1, 2, 3, 4, 5));
        Check.due(380, "end(380)", () -> clock.end(380));
        Check.due(400, "feed at 380", () -> clock.feed(1, 2, 3, 4, 5));
    }

    private static void feedMayComeToExactly400() {
        ZoneClock clock = new ZoneClock();
        String text = "+60" + " ".repeat(372) + "60 M3.5.0/120 M10.5.0/180";
        Check.due(400, "length of the long text", text::length);
        Check.tell(clock, text.substring(0, 399));
        Check.due("told", "zone of 399 bytes", () -> Check.zone(clock, 1));
        Check.tell(clock, text);
        Check.due("told", "zone of 400 bytes", () -> Check.zone(clock, 0));
        Check.due(60, "field of the long text", () -> clock.field(0, 0L, 7));
        Check.due(1711846800000L, "change of the long text", () -> clock.change(0, 1711846799999L, false));
        Check.due(20, "feed behind zone", () -> clock.feed(0, 0, 0, 0, 0));
    }

    private static void fullTapeStaysAsItWas() {
        ZoneClock clock = new ZoneClock();
        Check.tell(clock, "+0" + " ".repeat(398));
        Check.due("IndexOutOfBoundsException", "feed on a full tape", () -> clock.feed(-1, -1, -1, -1, -1));
        Check.due("UnsupportedOperationException", "zone of blanks to the end", () -> Check.zone(clock, 0));
        Check.due(400, "place at the end", clock::place);
    }

    private static void highestByteComesFirst() {
        ZoneClock clock = new ZoneClock();
        int offset = '+' << 24 | '1' << 16 | '2' << 8 | '3';
        int blanks = ' ' << 24 | ' ' << 16 | '6' << 8 | '0';
        int rule = ' ' << 24 | 'M' << 16 | '3' << 8 | '.';
        int week = '5' << 24 | '.' << 16 | '0' << 8 | '/';
        int minute = '1' << 24 | '2' << 16 | '0' << 8 | ' ';
        Check.due(20, "feed", () -> clock.feed(offset, blanks, rule, week, minute));
        int second = 'M' << 24 | '1' << 16 | '0' << 8 | '.';
        int last = '1' << 24 | '8' << 16 | '0' << 8 | 0xff;
        Check.due(40, "feed", () -> clock.feed(second, week, last, 0x80808080, -1));
        Check.due(31, "end", () -> clock.end(31));
        Check.due("told", "zone", () -> Check.zone(clock, 3));
        Check.due(123, "field 7", () -> clock.field(3, 0L, 7));
    }

    private static void endKeepsTheFirstBytes() {
        ZoneClock clock = new ZoneClock();
        Check.tell(clock, "+12345");
        Check.due(6, "end of its length", () -> clock.end(6));
        Check.due(4, "end(4)", () -> clock.end(4));
        Check.dueArgument("end(5) behind end(4)", () -> clock.end(5));
        Check.due("told", "zone", () -> Check.zone(clock, 0));
        Check.due(123, "field 7", () -> clock.field(0, 0L, 7));
        Check.dueArgument("end(1) of the tape that was read", () -> clock.end(1));
        Check.due(0, "end(0)", () -> clock.end(0));
    }

    private static void endRefusesWhatIsNotThere() {
        ZoneClock clock = new ZoneClock();
        Check.tell(clock, "+5");
        for (int n : new int[] {-1, 3, 20, 400, Integer.MAX_VALUE, Integer.MIN_VALUE}) {
            Check.dueArgument("end(" + n + ")", () -> clock.end(n));
        }
        Check.due("told", "zone of the tape as it was", () -> Check.zone(clock, 0));
        Check.due(5, "field 7", () -> clock.field(0, 0L, 7));
    }
}
