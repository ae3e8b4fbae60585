import java.lang.reflect.Constructor;
import java.lang.reflect.Field;
import java.lang.reflect.Method;
import java.lang.reflect.Modifier;
import java.util.ArrayList;
import java.util.Arrays;
import java.util.List;

/** The face is just the document's, and the class keeps to rules 1, 4, 5 and 11 as far as it shows from outside. */
final class FaceTest {
    private static final String LONGS = " mean keeps likely fair hide unseen odds parts fits whose rule ";
    private static final int[] ARITIES = {1, 2, 6, 0, 1, 4, 3, 3, 2, 2, 2, 3, 3, 4, 2, 3, 2, 3, 2, 4, 3, 1, 2, 1, 1, 0, 1, 3, 3, 2,
        2, 3, 2, 3, 2, 4, 0, 0, 3, 3, 5, 4, 2};

    private FaceTest() {
    }

    static void run() {
        constants();
        methods();
        members(InsuredAgainstLuck.class);
        for (Class<?> inside : InsuredAgainstLuck.class.getDeclaredClasses()) {
            int m = inside.getModifiers();
            Due.isTrue(1, inside + " is static and not public", Modifier.isStatic(m) && !Modifier.isPublic(m) && !Modifier.isProtected(m));
            members(inside);
        }
        Due.isTrue(1, "some twelve classes at most", InsuredAgainstLuck.class.getDeclaredClasses().length <= 14);
        Due.isTrue(1, "public and final", Modifier.isPublic(InsuredAgainstLuck.class.getModifiers())
            && Modifier.isFinal(InsuredAgainstLuck.class.getModifiers()));
        Constructor<?>[] made = InsuredAgainstLuck.class.getDeclaredConstructors();
        Due.isTrue(1, "one public constructor", made.length == 1 && Modifier.isPublic(made[0].getModifiers())
            && made[0].getParameterCount() == 0);
    }

    private static void constants() {
        Due.is(1, "NONE", InsuredAgainstLuck.NONE, -1);
        Due.is(1, "BAD", InsuredAgainstLuck.BAD, -2);
        Due.is(1, "STATE", InsuredAgainstLuck.STATE, -3);
        Due.is(1, "FULL", InsuredAgainstLuck.FULL, -4);
        Due.is(1, "NO", InsuredAgainstLuck.NO, -4611686018427387904L);
        int open = 0;
        for (Field f : InsuredAgainstLuck.class.getDeclaredFields()) {
            open += Modifier.isPrivate(f.getModifiers()) ? 0 : 1;
        }
        Due.is(1, "constants to be seen", open, 5);
    }

    private static void methods() {
        List<String> seen = new ArrayList<>();
        for (Method m : InsuredAgainstLuck.class.getDeclaredMethods()) {
            if (!Modifier.isPrivate(m.getModifiers())) {
                seen.add(m.getName());
                int place = RandomTest.FACE.indexOf(m.getName());
                Due.isTrue(1, m + " is of the face", place >= 0 && Modifier.isPublic(m.getModifiers())
                    && m.getParameterCount() == ARITIES[Math.max(0, place)]
                    && Arrays.stream(m.getParameterTypes()).allMatch(t -> t == int.class)
                    && m.getReturnType() == (LONGS.contains(" " + m.getName() + " ") ? long.class : int.class)
                    && !Modifier.isStatic(m.getModifiers()));
            } else {
                Due.isTrue(1, m + " has a name of its own", !RandomTest.FACE.contains(m.getName()));
            }
        }
        Due.isTrue(1, "all of the face", seen.size() == RandomTest.FACE.size() && seen.containsAll(RandomTest.FACE));
    }

    private static void members(Class<?> type) {
        int fields = 0;
        for (Field f : type.getDeclaredFields()) {
            boolean fixed = Modifier.isStatic(f.getModifiers());
            fields += fixed ? 0 : 1;
            Due.isTrue(1, f + " is no static state", !fixed || Modifier.isFinal(f.getModifiers()));
        }
        Due.isTrue(1, type + " has some twenty fields at most", fields <= 24);
        for (Method m : type.getDeclaredMethods()) {
            Due.isTrue(1, m + " takes seven at most", m.getParameterCount() <= 7);
        }
    }
}
