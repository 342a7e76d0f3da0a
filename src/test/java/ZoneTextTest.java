/** Promises 4 and 10: which texts are broken, and the PLACE that is told; a method for each sentence and edge. */
public final class ZoneTextTest {
    public static void main(String[] args) {
        wholeTexts();
        offsetIsASignAndAtMost840();
        saveIs1To120();
        monthIs1To12();
        weekIs1To5();
        weekdayIs0To6();
        minutesAre0To1439();
        numbersTooLargeForAnInt();
        noZeroInFront();
        noBlanksInFrontOrBehind();
        blanksStandBetween();
        allOfSummerOrNothing();
        everyMarkStandsWhereItMust();
        numberNeedsADigit();
        bytesNextToTheRightOnes();
        firstFaultIsTold();
        Check.done();
    }

    private static void wholeTexts() {
        String[] texts = {"+0", "-0", "+840", "-840", "+9", Check.BERLIN, Check.NEW_YORK, Check.LORD_HOWE,
            "-840 120 M12.5.6/1439 M1.1.0/0", "+0   1    M1.1.0/0     M1.1.0/0", "-0 120 M9.4.3/9 M10.2.1/10"};
        for (String text : texts) {
            Check.due(-1, "place of " + text, Check.clockWith(7, text)::place);
        }
    }

    /** What stands at {} in the text may be each of these, with that minute, month or day as its answer. */
    private static void dueWhole(String text, int what, boolean atFirstChange, int... numbers) {
        for (int number : numbers) {
            ZoneClock clock = Check.clockWith(0, text.replace("{}", "" + Math.abs(number)));
            long t = atFirstChange ? clock.change(0, 0L, false) : 0L;
            Check.due(number, "field " + what + " of '" + text + "'", () -> clock.field(0, t, what));
        }
    }

    /** What stands at {} in the text may be none of these, and its first byte is the PLACE. */
    private static void dueOutOfRange(String text, String... numbers) {
        for (String number : numbers) {
            dueBroken(text.indexOf("{}"), text.replace("{}", number));
        }
    }

    private static void dueBroken(int place, String... texts) {
        for (String text : texts) {
            ZoneClock clock = new ZoneClock();
            Check.tell(clock, text);
            Check.due(Check.BROKEN, "zone of '" + text + "'", () -> Check.zone(clock, 0));
            Check.due(place, "place of '" + text + "'", clock::place);
            Check.dueRefused("tape behind '" + text + "'", () -> clock.end(1));
        }
    }

    // "OFFSET: + or - and minutes, at most 840"
    private static void offsetIsASignAndAtMost840() {
        String summer = " 60 M3.1.0/0 M9.1.0/0";
        dueWhole("+{}", 7, false, 0, 1, 9, 10, 99, 100, 839, 840);
        dueWhole("-{}", 7, false, -1, -9, -10, -99, -100, -839, -840);
        dueWhole("+{}" + summer, 7, false, 0, 840);
        dueWhole("-{}" + summer, 7, false, -1, -840);
        dueOutOfRange("+{}", "841", "849", "850", "900", "999", "1000", "8400");
        dueOutOfRange("-{}", "841", "849", "850", "900", "999", "1000", "8400");
        dueOutOfRange("+{}" + summer, "841", "8400");
        dueOutOfRange("-{}" + summer, "841", "8400");
        dueBroken(0, "60", "0", " 60", "*60", ",60", ".60", "60" + summer);
        dueBroken(1, "--1", "+-1", "-+1", "++1");
    }

    // "SAVE: minutes 1 .. 120"
    private static void saveIs1To120() {
        String text = "+0 {} M1.2.0/0 M9.1.0/0";
        dueWhole(text, 7, true, 1, 2, 9, 10, 99, 100, 119, 120);
        dueOutOfRange(text, "0", "121", "129", "130", "200", "999", "1000", "1200");
        dueBroken(3, "+0 -1 M1.2.0/0 M9.1.0/0", "+0 +1 M1.2.0/0 M9.1.0/0");
    }

    // "M month 1 .. 12"
    private static void monthIs1To12() {
        dueWhole("+0 60 M{}.2.0/0 M12.5.0/1439", 4, true, 1, 2, 3, 4, 5, 6, 7, 8, 9, 10, 11, 12);
        dueWhole("+0 60 M12.5.0/1439 M{}.2.0/0", 4, true, 1, 2, 3, 4, 5, 6, 7, 8, 9, 10, 11, 12);
        dueOutOfRange("+0 60 M{}.2.0/0 M12.5.0/1439", "0", "13", "19", "20", "99", "100", "120");
        dueOutOfRange("+0 60 M12.5.0/1439 M{}.2.0/0", "0", "13", "19", "20", "99", "100", "120");
    }

    // "week 1 .. 5"; the Sundays of February 1970 were 1, 8, 15 and 22
    private static void weekIs1To5() {
        for (int week = 1; week <= 5; week++) {
            int day = week == 5 ? 22 : week * 7 - 6;
            String begin = "M2." + week + ".0/0";
            ZoneClock first = Check.clockWith(0, "+0 60 " + begin + " M12.1.0/0");
            Check.due(day, "day of " + begin, () -> first.field(0, first.change(0, 0L, false), 3));
            ZoneClock second = Check.clockWith(0, "+0 60 M12.1.0/0 " + begin.replace("/0", "/60"));
            Check.due(day, "day of the end, " + begin, () -> second.field(0, second.change(0, 0L, false), 3));
        }
        dueOutOfRange("+0 60 M2.{}.0/0 M12.1.0/0", "0", "6", "7", "9", "10", "11", "50");
        dueOutOfRange("+0 60 M12.1.0/0 M2.{}.0/0", "0", "6", "7", "9", "10", "11", "50");
    }

    // "weekday 0 .. 6 (0 Sunday)"; the first of February 1970 was a Sunday
    private static void weekdayIs0To6() {
        for (int i = 0; i <= 6; i++) {
            int weekday = i;
            ZoneClock first = Check.clockWith(0, "+0 60 M2.1." + weekday + "/0 M12.1.0/0");
            Check.due(1 + weekday, "day", () -> first.field(0, first.change(0, 0L, false), 3));
            ZoneClock second = Check.clockWith(0, "+0 60 M12.1.0/0 M2.1." + weekday + "/60");
            Check.due(1 + weekday, "day of the end", () -> second.field(0, second.change(0, 0L, false), 3));
        }
        dueOutOfRange("+0 60 M2.1.{}/0 M12.1.0/0", "7", "8", "9", "10", "60");
        dueOutOfRange("+0 60 M12.1.0/0 M2.1.{}/0", "7", "8", "9", "10", "60");
    }

    // "minutes 0 .. 1439"
    private static void minutesAre0To1439() {
        long day = Check.at(1970, 6, 7, 0, 0);
        for (int minute : new int[] {0, 1, 9, 10, 59, 60, 99, 100, 999, 1000, 1438, 1439}) {
            ZoneClock first = Check.clockWith(0, "+0 60 M6.1.0/" + minute + " M12.1.0/0");
            Check.due(day + minute * Check.MINUTE, "beginning at " + minute, () -> first.change(0, 0L, false));
            ZoneClock second = Check.clockWith(0, "+0 60 M12.1.0/0 M6.1.0/" + minute);
            Check.due(day + (minute - 60) * Check.MINUTE, "end at " + minute, () -> second.change(0, 0L, false));
        }
        String[] tooMany = {"1440", "1441", "1449", "1500", "1999", "2000", "9999", "10000", "14390"};
        dueOutOfRange("+0 60 M6.1.0/{} M12.1.0/0", tooMany);
        dueOutOfRange("+0 60 M12.1.0/0 M6.1.0/{}", tooMany);
        dueBroken(14, "+60 60 M1.1.0/-0 M2.1.0/0", "+60 60 M1.1.0/-1 M2.1.0/0");
    }

    /** 2 to the 32nd and 2 to the 64th, and 1 more: a reading that wraps around takes them for 0 and 1. */
    private static void numbersTooLargeForAnInt() {
        String[] huge = {"4294967296", "4294967297", "18446744073709551616", "18446744073709551617", "2147483648",
            "99999999999", "1" + "0".repeat(40), "1" + "0".repeat(70), "9".repeat(300)};
        dueOutOfRange("+{}", huge);
        dueOutOfRange("-{}", huge);
        dueOutOfRange("+0 {} M1.2.0/0 M9.1.0/0", huge);
        dueOutOfRange("+0 60 M{}.2.0/0 M12.5.0/1439", huge);
        dueOutOfRange("+0 60 M2.{}.0/0 M12.1.0/0", huge);
        dueOutOfRange("+0 60 M2.1.{}/0 M12.1.0/0", huge);
        dueOutOfRange("+0 60 M2.1.1/{} M12.1.0/0", huge);
        dueOutOfRange("+0 60 M2.1.1/0 M12.1.0/{}", huge);
    }

    // "no 0 in front (-0 may be)"
    private static void noZeroInFront() {
        Check.due(0, "-0", () -> Check.clockWith(0, "-0").field(0, 0L, 7));
        Check.due(0, "+0", () -> Check.clockWith(0, "+0").field(0, 0L, 7));
        Check.due(60, "-0 with summer",
                () -> Check.clockWith(0, "-0 60 M1.1.4/0 M9.1.0/0").field(0, 0L, 7));
        dueBroken(2, "+01", "-01", "+00", "-00", "+060", "-0840", "+0840", "+0841", "+00 60 M1.1.0/0 M2.1.0/0");
        dueBroken(13, "+60 60 M1.1.00/0 M2.1.0/0", "+60 60 M1.1.05/0 M2.1.0/0");
        dueBroken(15, "+60 60 M1.1.0/00 M2.1.0/0", "+60 60 M1.1.0/0120 M2.1.0/0");
        dueBroken(22, "+60 60 M1.1.0/0 M2.1.00/0", "+60 60 M1.1.0/0 M2.1.06/0");
        dueBroken(24, "+60 60 M1.1.0/0 M2.1.0/00", "+60 60 M1.1.0/0 M2.1.0/05");
        // Where no text has a 0, it is the 0 itself that can't stand there.
        dueBroken(4, "+60 01 M1.1.0/0 M2.1.0/0", "+60 00 M1.1.0/0 M2.1.0/0", "+60 060 M1.1.0/0 M2.1.0/0");
        dueBroken(8, "+60 60 M01.1.0/0 M2.1.0/0", "+60 60 M00.1.0/0 M2.1.0/0");
        dueBroken(10, "+60 60 M1.01.0/0 M2.1.0/0");
        dueBroken(17, "+60 60 M1.1.0/0 M02.1.0/0");
        dueBroken(19, "+60 60 M1.1.0/0 M2.01.0/0");
    }

    // "no blanks in front or behind"
    private static void noBlanksInFrontOrBehind() {
        dueBroken(0, " ", "  ", " +60", " " + Check.BERLIN);
        dueBroken(4, "+60 ");
        dueBroken(6, "+60   ");
        dueBroken(2, "+0\t", "+0\n", "+0\0");
        dueBroken(24, "+60 60 M1.1.0/0 M2.1.0/0 ", "+60 60 M1.1.0/0 M2.1.0/0  ", "+60 60 M1.1.0/0 M2.1.0/0\0",
                "+60 60 M1.1.0/0 M2.1.0/0x", "+60 60 M1.1.0/0 M2.1.0/0 M3.1.0/0");
    }

    // "OFFSET [blanks SAVE blanks RULE blanks RULE]": at least one between, and no other where
    private static void blanksStandBetween() {
        String many = "-300     60   M3.2.0/120          M11.1.0/120";
        Witness.dueZone("many blanks", Check.clockWith(2, many), 2, Check.NEW_YORK);
        dueBroken(6, "+60 60M1.1.0/0 M2.1.0/0");
        dueBroken(15, "+60 60 M1.1.0/0M2.1.0/0");
        dueBroken(3, "+60M1.1.0/0 M2.1.0/0", "+60\t60 M1.1.0/0 M2.1.0/0", "+60,60 M1.1.0/0 M2.1.0/0");
        dueBroken(6, "+60 60\tM1.1.0/0 M2.1.0/0");
        dueBroken(15, "+60 60 M1.1.0/0\tM2.1.0/0");
        dueBroken(1, "+ 60", "- 60");
        dueBroken(8, "+60 60 M 1.1.0/0 M2.1.0/0");
        dueBroken(9, "+60 60 M1 .1.0/0 M2.1.0/0");
        dueBroken(10, "+60 60 M1. 1.0/0 M2.1.0/0");
        dueBroken(11, "+60 60 M1.1 .0/0 M2.1.0/0");
        dueBroken(12, "+60 60 M1.1. 0/0 M2.1.0/0");
        dueBroken(13, "+60 60 M1.1.0 /0 M2.1.0/0");
        dueBroken(14, "+60 60 M1.1.0/ 0 M2.1.0/0");
    }

    // "[ ... ]" is there whole or not at all; "(its length at the end ...)"
    private static void allOfSummerOrNothing() {
        String text = "+840 120 M12.5.6/1439  M10.1.0/1000";
        for (int length = 0; length < text.length(); length++) {
            String front = text.substring(0, length);
            boolean isWhole = front.matches("[+]\\d+") || front.matches(".*  M10.1.0/1\\d*");
            if (isWhole) {
                Check.due(-1, "place of '" + front + "'", Check.clockWith(0, front)::place);
            } else {
                dueBroken(length, front);
            }
        }
        dueBroken(4, "+60 M1.1.0/0 M2.1.0/0");
        dueBroken(16, "+60 60 M1.1.0/0 60");
    }

    private static void everyMarkStandsWhereItMust() {
        String text = "+60 60 M1.1.0/0 M2.1.0/0";
        for (int place : new int[] {0, 3, 6, 7, 9, 11, 13, 15, 16, 18, 20, 22}) {
            dueBroken(place, new StringBuilder(text).replace(place, place + 1, "?").toString());
            dueBroken(place, new StringBuilder(text).insert(place, '?').toString());
        }
        dueBroken(7, "+60 60 m1.1.0/0 M2.1.0/0");
        dueBroken(16, "+60 60 M1.1.0/0 m2.1.0/0");
        dueBroken(9, "+60 60 M1/1.0/0 M2.1.0/0", "+60 60 M1,1.0/0 M2.1.0/0");
        dueBroken(13, "+60 60 M1.1.0.0 M2.1.0/0");
    }

    private static void numberNeedsADigit() {
        dueBroken(1, "+", "-", "+x", "+.");
        dueBroken(4, "+60 x", "+60 M");
        dueBroken(8, "+60 60 M", "+60 60 M.1.0/0 M2.1.0/0");
        dueBroken(10, "+60 60 M1.", "+60 60 M1..0/0 M2.1.0/0");
        dueBroken(12, "+60 60 M1.1.", "+60 60 M1.1./0 M2.1.0/0");
        dueBroken(14, "+60 60 M1.1.0/", "+60 60 M1.1.0/ M2.1.0/0");
        dueBroken(23, "+60 60 M1.1.0/0 M2.1.0/", "+60 60 M1.1.0/0 M2.1.0/x");
    }

    /** The bytes before 0 and behind 9, and those that have the right low seven bits and one more. */
    private static void bytesNextToTheRightOnes() {
        dueBroken(1, "+/", "+:", "+\u00b1", "-/", "-:");
        dueBroken(2, "+1/", "+1:", "+1\u00b2");
        dueBroken(0, "\u00ab60", "\u00ad60");
        dueBroken(3, "+60\u00a060 M1.1.0/0 M2.1.0/0", "+60!60 M1.1.0/0 M2.1.0/0", "+60\u001f60 M1.1.0/0 M2.1.0/0");
        dueBroken(7, "+60 60 \u00cd1.1.0/0 M2.1.0/0", "+60 60 L1.1.0/0 M2.1.0/0", "+60 60 N1.1.0/0 M2.1.0/0");
        dueBroken(9, "+60 60 M1\u00ae1.0/0 M2.1.0/0", "+60 60 M1-1.0/0 M2.1.0/0");
        dueBroken(13, "+60 60 M1.1.0\u00af0 M2.1.0/0");
    }

    // "the first byte that can't stand there is told ... of a number out of range its first byte"
    private static void firstFaultIsTold() {
        dueBroken(1, "+841x", "+841 0 M13.1.0/0 x", "+900\0");
        dueBroken(0, "x+841", "?");
        dueBroken(3, "+60x 121 M13.1.0/0");
        dueBroken(4, "+60 121x", "+60 0 M0.1.0/0 M2.1.0/0", "+60 0");
        dueBroken(8, "+60 60 M13", "+60 60 M0.0.7/1440 M2.1.0/0", "+60 60 M13x");
        dueBroken(10, "+60 60 M1.6.7/1440 M2.1.0/0");
        dueBroken(12, "+60 60 M1.1.7/1440 M2.1.0/0");
        dueBroken(14, "+60 60 M1.1.6/1440 M0.1.0/0");
        dueBroken(20, "+60 60 M1.1.6/1439 M0.6.0/0");
    }
}
