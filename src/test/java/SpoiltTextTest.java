import java.util.Random;
import java.util.regex.Matcher;
import java.util.regex.Pattern;

/** Promises 4 and 10 on many texts, against a pattern of all whole texts. */
public final class SpoiltTextTest {
    private static final String RULE = "M([1-9]|1[0-2])\\.[1-5]\\.[0-6]/(0|[1-9]\\d{0,2}|1[0-3]\\d\\d|14[0-3]\\d)";
    private static final Pattern TEXT = Pattern.compile("[+-](0|[1-9]\\d?|[1-7]\\d\\d|8[0-3]\\d|840)"
            + "( +([1-9]\\d?|1[01]\\d|120) +" + RULE + " +" + RULE + ")?");

    public static void main(String[] args) {
        oneByteSpoilt("+60 60 M3.5.0/120  M10.1.6/0");
        oneByteSpoilt("-840");
        randomlySpoilt();
        Check.done();
    }

    /** Every byte at every place, instead of the one that is there and before it; and every byte left out. */
    private static void oneByteSpoilt(String text) {
        for (int place = 0; place <= text.length(); place++) {
            String front = text.substring(0, place);
            String behind = text.substring(Math.min(place + 1, text.length()));
            for (char other = 0; other < 256; other++) {
                dueAsThePatternSays(front + other + behind);
                dueAsThePatternSays(front + other + text.substring(place));
            }
            dueAsThePatternSays(front + behind);
        }
    }

    private static void dueAsThePatternSays(String text) {
        int place = placeIn(text);
        ZoneClock clock = new ZoneClock();
        Check.tell(clock, text);
        String want = place < 0 ? "told" : Check.BROKEN;
        Check.due(want, "zone of '" + text + "'", () -> Check.zone(clock, 0));
        Check.due(place, "place of '" + text + "'", clock::place);
    }

    /** Whole texts with a byte or two changed, put in or left out. */
    private static void randomlySpoilt() {
        Random random = new Random(11);
        for (int i = 0; i < 40000; i++) {
            StringBuilder text = new StringBuilder(anyText(random));
            for (int n = random.nextInt(3); n > 0; n--) {
                spoil(text, random);
            }
            dueAsThePatternSays(text.toString());
        }
    }

    private static String anyText(Random random) {
        String sign = random.nextBoolean() ? "+" : "-";
        String text = sign + random.nextInt(850);
        if (random.nextInt(8) == 0) {
            return text;
        }
        return text + blanks(random) + random.nextInt(123) + blanks(random) + anyRule(random)
                + blanks(random) + anyRule(random);
    }

    private static String blanks(Random random) {
        return " ".repeat(1 + random.nextInt(4) / 3);
    }

    private static String anyRule(Random random) {
        int minute = random.nextBoolean() ? random.nextInt(200) : random.nextInt(1450);
        int month = random.nextInt(40) == 0 ? 13 : 1 + random.nextInt(12);
        int week = random.nextInt(40) == 0 ? 6 : 1 + random.nextInt(5);
        return "M" + month + "." + week + "." + random.nextInt(7) + "/" + minute;
    }

    private static void spoil(StringBuilder text, Random random) {
        String bytes = "0123456789 +-M./x\u0000\u00ff";
        char c = bytes.charAt(random.nextInt(bytes.length()));
        int at = random.nextInt(text.length() + 1);
        int kind = random.nextInt(4);
        if (kind == 0 || at == text.length()) {
            text.insert(at, c);
        } else if (kind == 1) {
            text.setCharAt(at, c);
        } else if (kind == 2) {
            text.deleteCharAt(at);
        } else {
            text.setLength(at);
        }
    }

    /** -1 of a whole text; else the end of the longest front that a whole text could have. */
    private static int placeIn(String text) {
        if (TEXT.matcher(text).matches()) {
            return -1;
        }
        int length = 0;
        while (length < text.length() && mayGoOn(text.substring(0, length + 1))) {
            length++;
        }
        return length < text.length() ? startOfTooLarge(text, length) : length;
    }

    private static boolean mayGoOn(String front) {
        Matcher matcher = TEXT.matcher(front);
        return matcher.matches() || matcher.hitEnd();
    }

    /** A digit that can't stand behind digits has made the number too large, but behind a 0 in front. */
    private static int startOfTooLarge(String text, int place) {
        int start = place;
        while (start > 0 && isDigit(text.charAt(start)) && isDigit(text.charAt(start - 1))) {
            start--;
        }
        return text.charAt(start) == '0' ? place : start;
    }

    private static boolean isDigit(char c) {
        return c >= '0' && c <= '9';
    }
}
