import java.time.DayOfWeek;
import java.time.LocalDate;
import java.time.LocalDateTime;
import java.time.ZoneOffset;
import java.time.temporal.TemporalAdjusters;
import java.util.ArrayList;
import java.util.List;
import java.util.Map;
import java.util.Random;
import java.util.TreeMap;

/** Promises 4 to 9 on many zones and times, against a plain model made with java.time. */
public final class ModelTest {
    private static final long MINUTE = 60000L;
    // A probe takes 15 calls; an object is good for 512.
    private static final int PROBES_OF_AN_OBJECT = 33;

    private final Random random;
    private int offset;
    private int save;
    private String text;
    /** When summer begins (true) or ends (false). */
    private final TreeMap<Long, Boolean> changes = new TreeMap<>();

    private ModelTest(long seed) {
        random = new Random(seed);
    }

    public static void main(String[] args) {
        for (int seed = 0; seed < 300; seed++) {
            ModelTest test = new ModelTest(seed);
            test.chooseZone();
            test.probeAll();
        }
        Check.done();
    }

    private void chooseZone() {
        offset = pick(-840, 840, 0, random.nextInt(1681) - 840);
        save = pick(0, 120, 1, 60, 1 + random.nextInt(120));
        text = (offset < 0 ? "-" : "+") + Math.abs(offset);
        if (save == 0) {
            return;
        }
        int[] begin = chooseRule();
        int[] end = chooseRule();
        if (random.nextInt(4) == 0) {
            // In one month, so that beginnings and ends change their order or meet.
            end[0] = begin[0];
            end[1] = begin[1];
            end[2] = random.nextBoolean() ? begin[2] : end[2];
            end[3] = Math.min(begin[3] + pick(save, save - 1, save + 1, 0), 1439);
        }
        text += " " + save + " " + textOf(begin) + "  " + textOf(end);
        for (int year = 1970; year <= 2299; year++) {
            changes.putIfAbsent(momentOf(begin, year) - offset * MINUTE, true);
        }
        for (int year = 1970; year <= 2299; year++) {
            changes.put(momentOf(end, year) - (offset + save) * MINUTE, false);
        }
    }

    private int[] chooseRule() {
        return new int[] {pick(1, 12, 2, 1 + random.nextInt(12)), pick(1, 5, 1 + random.nextInt(5)),
            random.nextInt(7), pick(0, 1439, 120, random.nextInt(1440))};
    }

    private int pick(int... choices) {
        return choices[random.nextInt(choices.length)];
    }

    private static String textOf(int[] rule) {
        return "M" + rule[0] + "." + rule[1] + "." + rule[2] + "/" + rule[3];
    }

    private static long momentOf(int[] rule, int year) {
        DayOfWeek weekday = rule[2] == 0 ? DayOfWeek.SUNDAY : DayOfWeek.of(rule[2]);
        LocalDate month = LocalDate.of(year, rule[0], 1);
        LocalDate day = month.with(rule[1] == 5 ? TemporalAdjusters.lastInMonth(weekday)
                : TemporalAdjusters.dayOfWeekInMonth(rule[1], weekday));
        return day.toEpochDay() * 1440 * MINUTE + rule[3] * MINUTE;
    }

    private void probeAll() {
        List<Long> probes = probes();
        ZoneClock clock = null;
        for (int i = 0; i < probes.size(); i++) {
            if (i % PROBES_OF_AN_OBJECT == 0) {
                clock = Check.clockWith(i % 8, text);
            }
            probe(clock, (i - i % PROBES_OF_AN_OBJECT) % 8, probes.get(i));
        }
    }

    private List<Long> probes() {
        List<Long> found = new ArrayList<>(List.of(0L, Check.LAST_TIME));
        for (int i = 0; i < 60; i++) {
            addNear(found, Math.floorMod(random.nextLong(), Check.LAST_TIME + 1));
            addNear(found, 1711846800000L + random.nextInt(1000) * 3600000L);
        }
        addNear(found, 0L);
        addNear(found, Check.LAST_TIME);
        return found;
    }

    /** The time, and times round the changes on both its sides, in universal and both local times. */
    private void addNear(List<Long> found, long t) {
        addInRange(found, t);
        for (Long change : new Long[] {changes.floorKey(t), changes.higherKey(t)}) {
            if (change != null) {
                addInRange(found, change + random.nextInt(3) - 1);
                addInRange(found, change + offset * MINUTE + random.nextInt(3) - 1);
                addInRange(found, change + (offset + save) * MINUTE + random.nextInt(3) - 1);
                addInRange(found, change + (offset - save) * MINUTE + random.nextInt(3) - 1);
                addInRange(found, change + offset * MINUTE + random.nextInt(save) * MINUTE);
            }
        }
    }

    private static void addInRange(List<Long> found, long t) {
        if (t >= 0 && t <= Check.LAST_TIME) {
            found.add(t);
        }
    }

    private void probe(ZoneClock clock, int z, long t) {
        String name = "'" + text + "' " + t;
        Check.due(localAt(t), "local of " + name, () -> clock.local(z, t));
        List<Long> times = timesOf(t);
        Check.due(times.size(), "many of " + name, () -> clock.many(z, t));
        Object first = times.isEmpty() ? "NoSuchElementException" : times.get(0);
        Object last = times.isEmpty() ? "NoSuchElementException" : times.get(times.size() - 1);
        Check.due(first, "first of " + name, () -> clock.universal(z, t, false));
        Check.due(last, "last of " + name, () -> clock.universal(z, t, true));
        Long behind = changes.higherKey(t);
        Check.due(behind == null ? -1L : behind, "change of " + name, () -> clock.change(z, t, false));
        Long before = changes.floorKey(t);
        Check.due(before == null || before < 0 ? -1L : before, "back of " + name, () -> clock.change(z, t, true));
        int[] fields = fieldsAt(t);
        for (int i = 0; i < fields.length; i++) {
            int what = i;
            Check.due(fields[what], "field " + what + " of " + name, () -> clock.field(z, t, what));
        }
    }

    private boolean isSummer(long t) {
        Map.Entry<Long, Boolean> latest = changes.floorEntry(t);
        return latest != null && latest.getValue();
    }

    private long localAt(long t) {
        return t + (isSummer(t) ? offset + save : offset) * MINUTE;
    }

    /** All times with that local time, by trying each whole minute that can lie between the two. */
    private List<Long> timesOf(long local) {
        List<Long> times = new ArrayList<>();
        for (int minutes = 960; minutes >= -840; minutes--) {
            long t = local - minutes * MINUTE;
            if (localAt(t) == local) {
                times.add(t);
            }
        }
        return times;
    }

    private int[] fieldsAt(long t) {
        long local = localAt(t);
        LocalDateTime told = LocalDateTime.ofEpochSecond(Math.floorDiv(local, 1000L), 0, ZoneOffset.UTC);
        return new int[] {told.getSecond(), told.getMinute(), told.getHour(), told.getDayOfMonth(),
            told.getMonthValue(), told.getYear(), told.getDayOfWeek().getValue() % 7 + 1,
            (int) ((local - t) / MINUTE), isSummer(t) ? 1 : 0};
    }
}
