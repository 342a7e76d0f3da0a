import java.util.NoSuchElementException;

/**
 * Time zones with summer time: read from texts, and both ways between universal and local time,
 * with what is skipped and what comes twice.
 */
public final class ZoneClock {
    private static final long LAST_TIME = 10413791999999L;
    private static final long SECOND = 1000L;
    private static final long MINUTE = 60000L;
    private static final long HOUR = 3600000L;
    private static final long DAY = 86400000L;
    private static final int FIRST_YEAR = 1970;
    private static final int LAST_YEAR = 2299;
    private static final int ZONE_COUNT = 8;
    private static final int TAPE_SIZE = 400;
    private static final int FEED_SIZE = 20;
    private static final int LAST_FIELD = 8;
    private static final int NONE = -1;
    // Outside all that a call can meet, so that min and max pass over what is not there.
    private static final long LONG_AGO = -1000000000000000L;
    private static final long FAR_AHEAD = 1000000000000000L;

    private final Tape tape;
    private final Zone draft;
    private final Zone[] zones;
    private int brokenPlace;

    public ZoneClock() {
        tape = new Tape();
        draft = new Zone();
        zones = new Zone[ZONE_COUNT];
        for (int z = 0; z < ZONE_COUNT; z++) {
            zones[z] = new Zone();
        }
        brokenPlace = NONE;
    }

    public int feed(int a, int b, int c, int d, int e) throws IndexOutOfBoundsException {
        if (tape.length > TAPE_SIZE - FEED_SIZE) {
            throw new IndexOutOfBoundsException();
        }
        tape.append(a);
        tape.append(b);
        tape.append(c);
        tape.append(d);
        tape.append(e);
        return tape.length;
    }

    public int end(int n) throws IllegalArgumentException {
        if (n < 0 || n > tape.length) {
            throw new IllegalArgumentException();
        }
        tape.length = n;
        return n;
    }

    public void zone(int z) throws IllegalArgumentException, UnsupportedOperationException {
        Zone target = zoneAt(z);
        brokenPlace = tape.readZone(draft);
        tape.length = 0;
        if (brokenPlace != NONE) {
            throw new UnsupportedOperationException();
        }
        target.become(draft);
    }

    public long local(int z, long t) throws IllegalArgumentException {
        Zone zone = zoneAt(z);
        checkTime(t);
        return t + zone.minutesAt(t) * MINUTE;
    }

    public int many(int z, long local) throws IllegalArgumentException {
        Zone zone = zoneAt(z);
        checkTime(local);
        int inSummer = zone.isReadInSummer(local) ? 1 : 0;
        int outsideSummer = zone.isReadOutsideSummer(local) ? 1 : 0;
        return inSummer + outsideSummer;
    }

    public long universal(int z, long local, boolean later)
            throws IllegalArgumentException, NoSuchElementException {
        Zone zone = zoneAt(z);
        checkTime(local);
        boolean inSummer = zone.isReadInSummer(local);
        boolean outsideSummer = zone.isReadOutsideSummer(local);
        if (!inSummer && !outsideSummer) {
            throw new NoSuchElementException();
        }
        // Of two, the one in SUMMER is the first: more is taken off the same LOCAL time.
        boolean takeSummer = inSummer && !(later && outsideSummer);
        return takeSummer ? zone.fromSummerReading(local) : zone.fromPlainReading(local);
    }

    public long change(int z, long t, boolean back) throws IllegalArgumentException {
        Zone zone = zoneAt(z);
        checkTime(t);
        long found = back ? zone.lastChangeUpTo(t) : zone.firstChangeBehind(t);
        return found < 0 || found == FAR_AHEAD ? NONE : found;
    }

    public int field(int z, long t, int what) throws IllegalArgumentException {
        Zone zone = zoneAt(z);
        checkTime(t);
        if (what < 0 || what > LAST_FIELD) {
            throw new IllegalArgumentException();
        }
        if (what == LAST_FIELD) {
            return zone.isSummer(t) ? 1 : 0;
        }
        int minutes = zone.minutesAt(t);
        if (what == LAST_FIELD - 1) {
            return minutes;
        }
        return Calendar.partOf(t + minutes * MINUTE, what);
    }

    public int place() {
        return brokenPlace;
    }

    private Zone zoneAt(int z) {
        if (z < 0 || z >= zones.length) {
            throw new IllegalArgumentException();
        }
        return zones[z];
    }

    private static void checkTime(long t) {
        if (t < 0 || t > LAST_TIME) {
            throw new IllegalArgumentException();
        }
    }

    /**
     * The bytes that were fed, and the reading of a zone from their front. Once a byte can't
     * stand where it is, the position stays there, and all reading behind it does nothing.
     */
    private static final class Tape {
        // Above every number that may be, and small enough to take one digit more.
        private static final int TOO_LARGE = 100000;

        private final byte[] bytes = new byte[TAPE_SIZE];
        private int length;
        private int position;
        private boolean broken;

        void append(int fourBytes) {
            for (int shift = 24; shift >= 0 && length < bytes.length; shift -= 8) {
                bytes[length] = (byte) (fourBytes >> shift);
                length++;
            }
        }

        /** Answers the place of the byte that breaks the text, NONE for a whole text. */
        int readZone(Zone into) {
            position = 0;
            broken = false;
            into.offset = readOffset();
            into.save = 0;
            if (position < length) {
                readBlanks();
                into.save = readNumber(1, 120);
                readBlanks();
                readRule(into.begin);
                readBlanks();
                readRule(into.end);
            }
            if (position < length) {
                broken = true;
            }
            return broken ? position : NONE;
        }

        private int readOffset() {
            boolean minus = nextByte() == '-';
            readByte(minus ? '-' : '+');
            int minutes = readNumber(0, 840);
            return minus ? -minutes : minutes;
        }

        private void readRule(Rule into) {
            readByte('M');
            into.month = readNumber(1, 12);
            readByte('.');
            into.week = readNumber(1, 5);
            readByte('.');
            into.weekday = readNumber(0, 6);
            readByte('/');
            into.minute = readNumber(0, 1439);
        }

        private void readByte(char wanted) {
            if (broken) {
                return;
            }
            if (nextByte() == wanted) {
                position++;
            } else {
                broken = true;
            }
        }

        private void readBlanks() {
            readByte(' ');
            while (!broken && position < length && nextByte() == ' ') {
                position++;
            }
        }

        private int readNumber(int least, int most) {
            if (broken) {
                return 0;
            }
            int start = position;
            int value = readDigits();
            if (value < least || value > most) {
                position = start;
                broken = true;
            }
            return value;
        }

        /** NONE if there is no digit; a 0 in front is the whole number. */
        private int readDigits() {
            int first = nextByte();
            if (!isDigit(first)) {
                return NONE;
            }
            position++;
            int value = first - '0';
            while (value > 0 && position < length && isDigit(nextByte())) {
                value = Math.min(value * 10 + nextByte() - '0', TOO_LARGE);
                position++;
            }
            return value;
        }

        /** The byte at the position as 0 .. 255, NONE behind the last one. */
        private int nextByte() {
            if (position < 0 || position >= length || position >= bytes.length) {
                return NONE;
            }
            return bytes[position] & 255;
        }

        private static boolean isDigit(int code) {
            return code >= '0' && code <= '9';
        }
    }

    private static final class Zone {
        private int offset;
        // 0: no SUMMER, and the rules mean nothing.
        private int save;
        private final Rule begin = new Rule();
        private final Rule end = new Rule();

        void become(Zone other) {
            offset = other.offset;
            save = other.save;
            begin.become(other.begin);
            end.become(other.end);
        }

        boolean isSummer(long t) {
            // A beginning and an end at the same time: the end counts, so only > will do.
            return save > 0 && begin.lastUpTo(t, offset) > end.lastUpTo(t, offset + save);
        }

        int minutesAt(long t) {
            return isSummer(t) ? offset + save : offset;
        }

        long fromPlainReading(long local) {
            return local - offset * MINUTE;
        }

        long fromSummerReading(long local) {
            return local - (offset + save) * MINUTE;
        }

        boolean isReadOutsideSummer(long local) {
            return !isSummer(fromPlainReading(local));
        }

        boolean isReadInSummer(long local) {
            return isSummer(fromSummerReading(local));
        }

        long lastChangeUpTo(long t) {
            if (save == 0) {
                return LONG_AGO;
            }
            return Math.max(begin.lastUpTo(t, offset), end.lastUpTo(t, offset + save));
        }

        long firstChangeBehind(long t) {
            if (save == 0) {
                return FAR_AHEAD;
            }
            return Math.min(begin.firstBehind(t, offset), end.firstBehind(t, offset + save));
        }
    }

    /**
     * One moment in each year, on the clock that runs so many minutes (shift) before universal
     * time. On that clock each year's moment lies inside its year, so a time's own year and
     * its neighbour are all that needs to be looked at.
     */
    private static final class Rule {
        private int month;
        private int week;
        private int weekday;
        private int minute;

        void become(Rule other) {
            month = other.month;
            week = other.week;
            weekday = other.weekday;
            minute = other.minute;
        }

        /** The last of the moments not behind t, in universal time; LONG_AGO without. */
        long lastUpTo(long t, int shift) {
            long clock = t + shift * MINUTE;
            int year = Math.min(Calendar.yearOf(Calendar.dayAt(clock)), LAST_YEAR);
            if (momentIn(year) > clock) {
                year--;
            }
            return year < FIRST_YEAR ? LONG_AGO : momentIn(year) - shift * MINUTE;
        }

        /** The first of the moments behind t, in universal time; FAR_AHEAD without. */
        long firstBehind(long t, int shift) {
            long clock = t + shift * MINUTE;
            int year = Math.max(Calendar.yearOf(Calendar.dayAt(clock)), FIRST_YEAR);
            if (momentIn(year) <= clock) {
                year++;
            }
            return year > LAST_YEAR ? FAR_AHEAD : momentIn(year) - shift * MINUTE;
        }

        private long momentIn(int year) {
            int first = Calendar.firstDayOf(year, month);
            int toWeekday = Math.floorMod(weekday - Calendar.weekdayOf(first), 7);
            int inMonth = toWeekday + 7 * (week - 1);
            // Only a fifth week can lie behind the month, and then it means the fourth.
            if (inMonth >= Calendar.lengthOf(year, month)) {
                inMonth -= 7;
            }
            return (first + inMonth) * DAY + minute * MINUTE;
        }
    }

    /** The Gregorian calendar; days are counted from the first of January 1970, which is 0. */
    private static final class Calendar {
        private static final int LEAP_YEARS_BEFORE_1970 = 477;

        /** what: 0 second, 1 minute, 2 hour, 3 day, 4 month, 5 year, 6 weekday (1 Sunday). */
        static int partOf(long local, int what) {
            int day = dayAt(local);
            int year = yearOf(day);
            switch (what) {
                case 0:
                    return (int) (Math.floorMod(local, MINUTE) / SECOND);
                case 1:
                    return (int) (Math.floorMod(local, HOUR) / MINUTE);
                case 2:
                    return (int) (Math.floorMod(local, DAY) / HOUR);
                case 3:
                    return day - firstDayOf(year, monthOf(year, day)) + 1;
                case 4:
                    return monthOf(year, day);
                case 5:
                    return year;
                default:
                    return weekdayOf(day) + 1;
            }
        }

        static int dayAt(long local) {
            return (int) Math.floorDiv(local, DAY);
        }

        /** 0 Sunday. */
        static int weekdayOf(int day) {
            return Math.floorMod(day + 4, 7);
        }

        static int yearOf(int day) {
            // The leap days of 330 years are fewer than a year: the guess is one too high at most.
            int guess = FIRST_YEAR + Math.floorDiv(day, 365);
            return firstDayOf(guess, 1) > day ? guess - 1 : guess;
        }

        static int monthOf(int year, int day) {
            int month = 1;
            while (month < 12 && firstDayOf(year, month + 1) <= day) {
                month++;
            }
            return month;
        }

        static int firstDayOf(int year, int month) {
            int before = year - 1;
            int leapYears = before / 4 - before / 100 + before / 400 - LEAP_YEARS_BEFORE_1970;
            int day = 365 * (year - FIRST_YEAR) + leapYears;
            for (int m = 1; m < month; m++) {
                day += lengthOf(year, m);
            }
            return day;
        }

        static int lengthOf(int year, int month) {
            switch (month) {
                case 2:
                    return year % 4 == 0 && (year % 100 != 0 || year % 400 == 0) ? 29 : 28;
                case 4:
                case 6:
                case 9:
                case 11:
                    return 30;
                default:
                    return 31;
            }
        }
    }
}
