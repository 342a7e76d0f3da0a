import java.lang.reflect.Constructor;
import java.lang.reflect.Field;
import java.lang.reflect.Method;
import java.lang.reflect.Modifier;
import java.util.Set;
import java.util.TreeSet;

/** Promise 1, and the public face. */
public final class NewObjectTest {
    public static void main(String[] args) {
        everyZoneIsPlainUniversalTime();
        tapeIsEmptyAndNoPlaceIsTold();
        objectsAreApart();
        faceIsTheDocuments();
        Check.done();
    }

    private static void everyZoneIsPlainUniversalTime() {
        ZoneClock clock = new ZoneClock();
        long t = 1711849500000L;
        for (int i = 0; i < 8; i++) {
            int z = i;
            Check.due(t, "new local", () -> clock.local(z, t));
            Check.due(1, "new many", () -> clock.many(z, t));
            Check.due(t, "new universal", () -> clock.universal(z, t, true));
            Check.due(-1L, "new change", () -> clock.change(z, t, false));
            Check.due(-1L, "new change back", () -> clock.change(z, t, true));
            Check.due(0, "new field 7", () -> clock.field(z, t, 7));
            Check.due(0, "new field 8", () -> clock.field(z, t, 8));
        }
    }

    private static void tapeIsEmptyAndNoPlaceIsTold() {
        ZoneClock clock = new ZoneClock();
        Check.due(-1, "new place", clock::place);
        Check.dueRefused("new end(1)", () -> clock.end(1));
        Check.due(0, "new end(0)", () -> clock.end(0));
        Check.due(20, "new feed", () -> clock.feed(0, 0, 0, 0, 0));
    }

    private static void objectsAreApart() {
        ZoneClock told = Check.clockWith(0, "+60");
        Check.tell(told, "x");
        ZoneClock fresh = new ZoneClock();
        Check.due(0L, "local of the other object", () -> fresh.local(0, 0L));
        Check.dueRefused("tape of the other object", () -> fresh.end(1));
    }

    private static void faceIsTheDocuments() {
        Set<String> face = new TreeSet<>();
        for (Method method : ZoneClock.class.getDeclaredMethods()) {
            if (!Modifier.isPrivate(method.getModifiers())) {
                face.add(method.toGenericString());
            }
        }
        String wrongZ = " throws java.lang.IllegalArgumentException";
        Set<String> want = new TreeSet<>(Set.of(
                "public int ZoneClock.feed(int,int,int,int,int) throws java.lang.IndexOutOfBoundsException",
                "public int ZoneClock.end(int)" + wrongZ,
                "public void ZoneClock.zone(int)" + wrongZ + ",java.lang.UnsupportedOperationException",
                "public long ZoneClock.local(int,long)" + wrongZ,
                "public int ZoneClock.many(int,long)" + wrongZ,
                "public long ZoneClock.universal(int,long,boolean)" + wrongZ + ",java.util.NoSuchElementException",
                "public long ZoneClock.change(int,long,boolean)" + wrongZ,
                "public int ZoneClock.field(int,long,int)" + wrongZ,
                "public int ZoneClock.place()"));
        Check.due(want, "the methods of the face", () -> face);
        Check.due(true, "public", () -> Modifier.isPublic(ZoneClock.class.getModifiers()));
        Check.due(true, "final", () -> Modifier.isFinal(ZoneClock.class.getModifiers()));
        for (Field field : ZoneClock.class.getDeclaredFields()) {
            Check.due(true, field.getName() + " is private", () -> Modifier.isPrivate(field.getModifiers()));
        }
        for (Class<?> inside : ZoneClock.class.getDeclaredClasses()) {
            Check.due(false, inside + " is public", () -> Modifier.isPublic(inside.getModifiers()));
        }
        Constructor<?>[] made = ZoneClock.class.getDeclaredConstructors();
        Check.due("public ZoneClock()", "the constructor", () -> made[0].toGenericString());
        Check.due(1, "constructors", () -> made.length);
    }
}
