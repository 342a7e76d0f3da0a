/** Promise 2, feed, a method for each sentence and edge. */
public final class FeedTest {
    public static void main(String[] args) {
        twentyBytesComeToTheTape();
        highestByteOfEachComesFirst();
        everyByteMayCome();
        bytesComeBehindThoseThatAreThere();
        lastLengthThatMayBeIs400();
        exactly400BytesAreAllRead();
        moreThan400IsRefusedAndChangesNothing();
        answersItsLength();
        Check.done();
    }

    private static int four(String text) {
        return text.charAt(0) << 24 | text.charAt(1) << 16 | text.charAt(2) << 8 | text.charAt(3);
    }

    // "The 20 bytes of five ints ... come to the TAPE"
    private static void twentyBytesComeToTheTape() {
        ZoneClock clock = new ZoneClock();
        Check.due(20, "feed", () -> clock.feed(four("+1  "), four("    "), four("    "), four("    "), four("   ?")));
        Check.due(Check.BROKEN, "zone", () -> Check.zone(clock, 0));
        Check.due(19, "place of the twentieth byte", clock::place);
        Check.due(20, "feed", () -> clock.feed(four("+1  "), four("    "), four("    "), four("    "), four("    ")));
        Check.due(Check.BROKEN, "zone", () -> Check.zone(clock, 0));
        Check.due(20, "place behind the twentieth byte", clock::place);
    }

    // "the highest of each first"
    private static void highestByteOfEachComesFirst() {
        ZoneClock clock = new ZoneClock();
        clock.feed(four("+123"), four("  60"), four(" M3."), four("5.0/"), four("120 "));
        clock.feed(four("M10."), four("5.0/"), four("180\u00ff"), 0x80808080, -1);
        Check.due(31, "end", () -> clock.end(31));
        Check.due("told", "zone", () -> Check.zone(clock, 3));
        Check.due(123, "field 7", () -> clock.field(3, 0L, 7));
        Check.due(Check.at(1970, 3, 29, 2, 0) - 123 * Check.MINUTE, "the first beginning",
                () -> clock.change(3, 0L, false));
    }

    /** No byte, not even 0 or 255, ends the text or is left out. */
    private static void everyByteMayCome() {
        ZoneClock clock = new ZoneClock();
        for (int code : new int[] {0, 1, 127, 128, 255}) {
            int all = code << 24 | code << 16 | code << 8 | code;
            Check.due(20, "feed of " + code, () -> clock.feed(all, all, all, all, all));
            Check.due(20, "end of " + code, () -> clock.end(20));
            Check.due(Check.BROKEN, "zone of " + code, () -> Check.zone(clock, 0));
            Check.due(0, "place of " + code, clock::place);
        }
        clock.feed(four("+12\0"), four("\0\0\0\0"), 0, 0, 0);
        Check.due(Check.BROKEN, "zone with 0 behind", () -> Check.zone(clock, 0));
        Check.due(3, "place of the 0", clock::place);
    }

    private static void bytesComeBehindThoseThatAreThere() {
        ZoneClock clock = new ZoneClock();
        Check.tell(clock, "+6");
        Check.due(22, "feed behind two bytes", () -> clock.feed(four("7890"), 0, 0, 0, 0));
        Check.due(3, "end", () -> clock.end(3));
        Check.due("told", "zone", () -> Check.zone(clock, 0));
        Check.due(67, "field 7", () -> clock.field(0, 0L, 7));
    }

    // "it would have more than 400": 380 and 20 may be, 381 and 20 may not
    private static void lastLengthThatMayBeIs400() {
        ZoneClock clock = new ZoneClock();
        for (int i = 1; i <= 20; i++) {
            Check.due(20 * i, "feed " + i, () -> clock.feed(1, 2, 3, 4, 5));
        }
        Check.due(Check.TOO_LONG, "feed 21", () -> clock.feed(1, 2, 3, 4, 5));
        Check.due(399, "end(399)", () -> clock.end(399));
        Check.due(Check.TOO_LONG, "feed at 399", () -> clock.feed(1, 2, 3, 4, 5));
        Check.due(381, "end(381)", () -> clock.end(381));
        Check.due(Check.TOO_LONG, "feed at 381", () -> clock.feed(1, 2, 3, 4, 5));
        Check.due(380, "end(380)", () -> clock.end(380));
        Check.due(400, "feed at 380", () -> clock.feed(1, 2, 3, 4, 5));
    }

    private static void exactly400BytesAreAllRead() {
        String text = "+60" + " ".repeat(372) + "60 M3.5.0/120 M10.5.0/180";
        Check.due(400, "length of the long text", text::length);
        ZoneClock clock = Check.clockWith(0, text);
        Check.due(60, "field of the long text", () -> clock.field(0, 0L, 7));
        Check.due(Check.at(2024, 10, 27, 1, 0), "the end of summer, by its last byte",
                () -> clock.change(0, Check.at(2024, 7, 1, 0, 0), false));
        Check.due(20, "feed behind zone", () -> clock.feed(0, 0, 0, 0, 0));
        ZoneClock blanks = new ZoneClock();
        Check.tell(blanks, "+0" + " ".repeat(398));
        Check.due(Check.BROKEN, "zone of blanks to the end", () -> Check.zone(blanks, 0));
        Check.due(400, "place at the end", blanks::place);
    }

    // "IndexOutOfBoundsException", and "A call that throws changes nothing"
    private static void moreThan400IsRefusedAndChangesNothing() {
        String summer = "60 M3.5.0/120 M10.5.0/180";
        for (int length : new int[] {381, 382, 399, 400}) {
            String text = "+60" + " ".repeat(length - 3 - summer.length()) + summer;
            Witness.dueRefused(Check.TOO_LONG, "feed at " + length, text, clock -> clock.feed(-1, -1, -1, -1, -1));
        }
    }

    // "Answers its length"
    private static void answersItsLength() {
        ZoneClock clock = new ZoneClock();
        Check.due(20, "the first feed", () -> clock.feed(0, 0, 0, 0, 0));
        Check.due(7, "end", () -> clock.end(7));
        Check.due(27, "feed at 7", () -> clock.feed(0, 0, 0, 0, 0));
        Check.due(0, "end(0)", () -> clock.end(0));
        Check.due(20, "feed at 0", () -> clock.feed(0, 0, 0, 0, 0));
        Check.due(Check.BROKEN, "zone", () -> Check.zone(clock, 0));
        Check.due(20, "feed behind a broken zone", () -> clock.feed(0, 0, 0, 0, 0));
    }
}
