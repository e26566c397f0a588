import java.lang.reflect.Constructor;
import java.lang.reflect.Field;
import java.lang.reflect.Method;
import java.lang.reflect.Modifier;
import java.util.Arrays;
import java.util.Set;
import java.util.TreeSet;

/** The class shows the document's face and nothing else, and holds no more than small rows. */
public final class FaceTest {
    private static final String[] FACE = {
        "int place(int, int, int)", "int way(int, int, int)", "int folk(int)", "int meeting(int, int, int, int, int)",
        "int row(int, int, int)", "int set(int, int, long)", "int copy(int, int, int, int, int)",
        "long element(int, int)", "int show(int, int)", "int holds(int)", "int homeIn(int)", "int duties(int, int)",
        "int fault(int)", "int likes(int, int)", "int key(int, int, boolean)", "int begin()", "int tick(int)",
        "int bend(int, int, int, int)", "int lock(int, boolean)", "int again(int)", "int gone(int)", "int happen(int)",
        "int where(int, int)", "int cost(int)", "int seated(int, int)", "int knows(int, int)", "int met(int, int)",
        "int far(int, int)", "int status(int)"};
    private static int wrong;

    private static void check(boolean fine, String what) {
        if (!fine) {
            wrong++;
            System.out.println("FaceTest: " + what);
        }
    }

    private static String told(Method m) {
        StringBuilder text = new StringBuilder(m.getReturnType().getName()).append(' ').append(m.getName()).append('(');
        for (int i = 0; i < m.getParameterCount(); i++) {
            text.append(i == 0 ? "" : ", ").append(m.getParameterTypes()[i].getName());
        }
        return text.append(')').toString();
    }

    private static void methods() {
        Set<String> shown = new TreeSet<>();
        Set<String> names = new TreeSet<>();
        Set<String> hidden = new TreeSet<>();
        for (Method m : TownFolk.class.getDeclaredMethods()) {
            if (m.isSynthetic()) {
                continue;
            }
            if (Modifier.isPrivate(m.getModifiers())) {
                hidden.add(m.getName());
            } else {
                shown.add(told(m));
                names.add(m.getName());
                check(m.getModifiers() == Modifier.PUBLIC, m + " is not public alone");
                check(m.getExceptionTypes().length == 0, m + " names exceptions");
            }
        }
        check(shown.equals(new TreeSet<>(Arrays.asList(FACE))), "the methods are " + shown);
        hidden.retainAll(names);
        check(hidden.isEmpty(), "private methods bear names of public ones: " + hidden);
    }

    private static void fields() {
        for (Field f : TownFolk.class.getDeclaredFields()) {
            boolean isNone = f.getName().equals("NONE");
            check(isNone != Modifier.isPrivate(f.getModifiers()), f + " is shown, or NONE is hidden");
            check(!Modifier.isStatic(f.getModifiers()) || Modifier.isFinal(f.getModifiers()), f + " may change");
            check(!isNone || f.getModifiers() == (Modifier.PUBLIC | Modifier.STATIC | Modifier.FINAL), "NONE is hidden");
        }
        check(TownFolk.NONE == -1, "NONE is not -1");
    }

    private static void classes() {
        check(TownFolk.class.getModifiers() == (Modifier.PUBLIC | Modifier.FINAL), "the class is not public and final");
        check(TownFolk.class.getSuperclass() == Object.class, "the class has a class above it");
        Constructor<?>[] all = TownFolk.class.getDeclaredConstructors();
        check(all.length == 1 && all[0].getParameterCount() == 0 && Modifier.isPublic(all[0].getModifiers()),
            "the constructors are " + Arrays.toString(all));
        Class<?>[] inside = TownFolk.class.getDeclaredClasses();
        check(inside.length <= 11, "more than twelve classes");
        for (Class<?> c : inside) {
            check(Modifier.isStatic(c.getModifiers()), c + " is not static");
            check(!Modifier.isPublic(c.getModifiers()) && !Modifier.isProtected(c.getModifiers()), c + " is shown");
        }
    }

    public static void main(String[] args) {
        methods();
        fields();
        classes();
        System.out.println("FaceTest: " + wrong + " faults");
        if (wrong != 0) {
            System.exit(1);
        }
    }
}
