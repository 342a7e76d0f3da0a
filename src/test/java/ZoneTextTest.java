import java.util.Random;
import java.util.regex.Matcher;
import java.util.regex.Pattern;

/** Promises 4 and 10: zone and place. */
public final class ZoneTextTest {
    private static final String RULE = "M([1-9]|1[0-2])\\.[1-5]\\.[0-6]/(0|[1-9]\\d{0,2}|1[0-3]\\d\\d|14[0-3]\\d)";
    private static final Pattern TEXT = Pattern.compile("[+-](0|[1-9]\\d?|[1-7]\\d\\d|8[0-3]\\d|840)"
            + "( +([1-9]\\d?|1[01]\\d|120) +" + RULE + " +" + RULE + ")?");

    public static void main(String[] args) {
        wholeTexts();
        brokenTexts();
        brokenZoneStaysAsItWas();
        wrongZoneChangesNothing();
        placeIsOfTheLatestZone();
        zonesAreApart();
        plainTextBehindOneWithSummer();
        spoiltTexts();
        Check.done();
    }

    private static void wholeTexts() {
        String[] texts = {"+0", "-0", "+840", "-840", "+9", Check.BERLIN, Check.NEW_YORK, Check.LORD_HOWE,
            "-840 120 M12.5.6/1439 M1.1.0/0", "+0   1    M1.1.0/0     M1.1.0/0", "-0 120 M9.4.3/9 M10.2.1/10"};
        for (String text : texts) {
            Check.due(-1, "place of " + text, Check.clockWith(7, text)::place);
        }
        Check.due(0, "-0", () -> Check.clockWith(0, "-0").field(0, 0L, 7));
        Check.due(-840, "-840", () -> Check.clockWith(0, "-840").field(0, 0L, 7));
    }

    private static void brokenTexts() {
        dueBroken(0, "", " ", "60", " +60", "x", "0", "\u00ab");
        dueBroken(1, "+", "-", "+ 60", "+841", "-841", "+900", "+1000000000000000000000", "+4294967296",
                "+841x", "--1", "+841 60 M1.1.0/0 M2.1.0/0");
        dueBroken(2, "+01", "+00", "-00", "+0x", "+0840", "+1\u00b2");
        dueBroken(3, "+60x", "+60\t60 M1.1.0/0 M2.1.0/0", "+60,", "-60\0");
        dueBroken(4, "+60 ", "+60 x", "+60 M1.1.0/0 M2.1.0/0", "+60 0 M1.1.0/0 M2.1.0/0", "+60 121",
                "+60 -1", "+60 +1", "+60 01 M1.1.0/0 M2.1.0/0", "+60 99999999999");
        dueBroken(6, "+60 60", "+60 60M1.1.0/0 M2.1.0/0", "+60   ", "+60   x");
        dueBroken(7, "+60 60 ", "+60 60 m1.1.0/0 M2.1.0/0", "+60 60 1.1.0/0");
        dueBroken(8, "+60 60 M", "+60 60 M.", "+60 60 M0.1.0/0 M2.1.0/0", "+60 60 M13.1.0/0", "+60 60 M01.1.0/0");
        dueBroken(9, "+60 60 M1", "+60 60 M1/1", "+60 60 M1 ");
        dueBroken(10, "+60 60 M1.", "+60 60 M1.0.0/0", "+60 60 M1.6.0/0", "+60 60 M1.12.0/0", "+60 60 M12 1");
        dueBroken(12, "+60 60 M1.1.", "+60 60 M1.1.7/0", "+60 60 M1.1.10/0", "+60 60 M1.1.-");
        dueBroken(13, "+60 60 M1.1.0", "+60 60 M1.1.00/0", "+60 60 M1.1.0.0", "+60 60 M1.1.05/0");
        dueBroken(14, "+60 60 M1.1.0/", "+60 60 M1.1.0/1440 M2.1.0/0", "+60 60 M1.1.0/ 0");
        dueBroken(15, "+60 60 M1.1.0/0", "+60 60 M1.1.0/00 M2.1.0/0", "+60 60 M1.1.0/0M2.1.0/0");
        dueBroken(16, "+60 60 M1.1.0/0 ", "+60 60 M1.1.0/0 +");
        dueBroken(17, "+60 60 M1.1.0/0 M", "+60 60 M1.1.0/0 M13.1.0/0", "+60 60 M1.1.0/0 M0");
        dueBroken(24, "+60 60 M1.1.0/0 M2.1.0/0 ", "+60 60 M1.1.0/0 M2.1.0/0x", "+60 60 M1.1.0/0 M2.1.0/05");
        dueBroken(23, "+60 60 M1.1.0/0 M2.1.0/1440", "+60 60 M1.1.0/0 M2.1.0/");
    }

    private static void dueBroken(int place, String... texts) {
        for (String text : texts) {
            ZoneClock clock = new ZoneClock();
            Check.tell(clock, text);
            Check.due("UnsupportedOperationException", "zone of '" + text + "'", () -> Check.zone(clock, 0));
            Check.due(place, "place of '" + text + "'", clock::place);
            Check.dueArgument("tape behind '" + text + "'", () -> clock.end(1));
        }
    }

    private static void brokenZoneStaysAsItWas() {
        ZoneClock clock = Check.clockWith(2, Check.BERLIN);
        long summer = 1720000000000L;
        String[] texts = {"-1 30 M1.1.1/1 M2.2.2/x", "-1 ", "-1 30 M1.1.1/1", "x", ""};
        for (String text : texts) {
            Check.tell(clock, text);
            Check.due("UnsupportedOperationException", "zone of '" + text + "'", () -> Check.zone(clock, 2));
            Check.due(summer + 7200000L, "local", () -> clock.local(2, summer));
            Check.due(1711846800000L, "change back", () -> clock.change(2, summer, true));
            Check.due(1729990800000L, "change", () -> clock.change(2, summer, false));
        }
        Check.tell(clock, "-1");
        Check.due("told", "zone", () -> Check.zone(clock, 2));
        Check.due(summer - 60000L, "local of the new zone", () -> clock.local(2, summer));
        Check.due(-1L, "no change is left of the old zone", () -> clock.change(2, summer, false));
    }

    private static void wrongZoneChangesNothing() {
        ZoneClock clock = new ZoneClock();
        Check.tell(clock, "+1x");
        Check.due("UnsupportedOperationException", "zone", () -> Check.zone(clock, 0));
        Check.tell(clock, "+77");
        for (int z : new int[] {-1, 8, Integer.MAX_VALUE, Integer.MIN_VALUE}) {
            Check.dueArgument("zone(" + z + ")", () -> Check.zone(clock, z));
            Check.due(2, "place behind zone(" + z + ")", clock::place);
        }
        Check.due(3, "the tape is still there", () -> clock.end(3));
        Check.due("told", "zone", () -> Check.zone(clock, 7));
        Check.due(77, "field 7", () -> clock.field(7, 0L, 7));
    }

    private static void placeIsOfTheLatestZone() {
        ZoneClock clock = new ZoneClock();
        Check.due(-1, "place before", clock::place);
        Check.due("UnsupportedOperationException", "zone of nothing", () -> Check.zone(clock, 1));
        Check.due(0, "place", clock::place);
        Check.due(0, "place again", clock::place);
        Check.tell(clock, "+99 9");
        Check.due("UnsupportedOperationException", "zone cut off", () -> Check.zone(clock, 2));
        Check.due(5, "place at the length", clock::place);
        Check.dueArgument("local", () -> clock.local(9, 0L));
        Check.due(5, "place behind other calls", clock::place);
        Check.tell(clock, "+99");
        Check.due(5, "place before the next zone", clock::place);
        Check.due("told", "zone", () -> Check.zone(clock, 2));
        Check.due(-1, "place of a whole text", clock::place);
    }

    private static void zonesAreApart() {
        ZoneClock clock = new ZoneClock();
        for (int i = 0; i < 8; i++) {
            int z = i;
            Check.tell(clock, "+" + z + " 60 M" + (z + 1) + ".1.0/0 M12.1.0/" + z);
            Check.due("told", "zone " + z, () -> Check.zone(clock, z));
        }
        for (int i = 0; i < 8; i++) {
            int z = i;
            Check.due(z, "field 7 of zone " + z, () -> clock.field(z, 0L, 7));
            Check.due(1, "month of the first beginning in zone " + z,
                    () -> clock.field(z, clock.change(z, 0L, false), 4) == z + 1 ? 1 : 0);
        }
    }

    private static void plainTextBehindOneWithSummer() {
        ZoneClock clock = Check.clockWith(0, Check.BERLIN);
        long summer = 1720000000000L;
        for (int i = 0; i < 2; i++) {
            int z = i;
            Check.tell(clock, "+5");
            Check.due("told", "zone " + z, () -> Check.zone(clock, z));
            Check.due(5, "field 7 of zone " + z, () -> clock.field(z, summer, 7));
            Check.due(-1L, "change of zone " + z, () -> clock.change(z, summer, false));
        }
    }

    /** Whole texts with a byte or two changed, put in or left out, against a pattern of all texts. */
    private static void spoiltTexts() {
        Random random = new Random(11);
        for (int i = 0; i < 40000; i++) {
            StringBuilder text = new StringBuilder(anyText(random));
            for (int n = random.nextInt(3); n > 0; n--) {
                spoil(text, random);
            }
            String told = text.toString();
            int place = placeIn(told);
            ZoneClock clock = new ZoneClock();
            Check.tell(clock, told);
            String want = place < 0 ? "told" : "UnsupportedOperationException";
            Check.due(want, "zone of '" + told + "'", () -> Check.zone(clock, 0));
            Check.due(place, "place of '" + told + "'", clock::place);
        }
    }

    private static String anyText(Random random) {
        String sign = random.nextBoolean() ? "+" : "-";
        String text = sign + random.nextInt(850);
        if (random.nextInt(8) == 0) {
            return text;
        }
        return text + blanks(random) + random.nextInt(123) + blanks(random) + anyRule(random)
                + blanks(random) + anyRule(random);
    }

    private static String blanks(Random random) {
        return " ".repeat(1 + random.nextInt(4) / 3);
    }

    private static String anyRule(Random random) {
        int minute = random.nextBoolean() ? random.nextInt(200) : random.nextInt(1450);
        int month = random.nextInt(40) == 0 ? 13 : 1 + random.nextInt(12);
        int week = random.nextInt(40) == 0 ? 6 : 1 + random.nextInt(5);
        return "M" + month + "." + week + "." + random.nextInt(7) + "/" + minute;
    }

    private static void spoil(StringBuilder text, Random random) {
        String bytes = "0123456789 +-M./x\u0000\u00ff";
        char c = bytes.charAt(random.nextInt(bytes.length()));
        int at = random.nextInt(text.length() + 1);
        int kind = random.nextInt(4);
        if (kind == 0 || at == text.length()) {
            text.insert(at, c);
        } else if (kind == 1) {
            text.setCharAt(at, c);
        } else if (kind == 2) {
            text.deleteCharAt(at);
        } else {
            text.setLength(at);
        }
    }

    /** -1 of a whole text; else the end of the longest front that a whole text could have. */
    private static int placeIn(String text) {
        if (TEXT.matcher(text).matches()) {
            return -1;
        }
        int length = 0;
        while (length < text.length() && mayGoOn(text.substring(0, length + 1))) {
            length++;
        }
        return length < text.length() ? startOfTooLarge(text, length) : length;
    }

    private static boolean mayGoOn(String front) {
        Matcher matcher = TEXT.matcher(front);
        return matcher.matches() || matcher.hitEnd();
    }

    /** A digit that can't stand behind digits has made the number too large, but behind a 0 in front. */
    private static int startOfTooLarge(String text, int place) {
        int start = place;
        while (start > 0 && isDigit(text.charAt(start)) && isDigit(text.charAt(start - 1))) {
            start--;
        }
        return text.charAt(start) == '0' ? place : start;
    }

    private static boolean isDigit(char c) {
        return c >= '0' && c <= '9';
    }
}
