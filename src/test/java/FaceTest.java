import java.lang.reflect.Constructor;
import java.lang.reflect.Field;
import java.lang.reflect.Method;
import java.lang.reflect.Modifier;
import java.util.Arrays;
import java.util.TreeSet;

/** The class has the members of the document's face, and shows no other. */
public final class FaceTest {
    private static final String[] DUE = {
        "field public static final int NONE",
        "constructor public ()",
        "method public boolean open(boolean)",
        "method public boolean character(int, int, int)",
        "method public boolean rule(int, int, int, int)",
        "method public boolean glue(int, int, int, int)",
        "method public boolean kern(int)",
        "method public boolean penalty(int)",
        "method public int close(int, int, int, int) throws IllegalStateException"
                + " IllegalArgumentException UnsupportedOperationException",
        "method public boolean put(int, int, boolean)",
        "method public boolean unbox(int)",
        "method public boolean size(int, int, int)",
        "method public int about(int, int) throws IndexOutOfBoundsException",
        "method public int item(int, int, int) throws IndexOutOfBoundsException",
        "method public int count(int)",
    };

    private FaceTest() {
    }

    public static void main(String[] args) {
        TreeSet<String> shown = new TreeSet<>();
        for (Field f : BoxDesk.class.getDeclaredFields()) {
            if (isShown(f.getModifiers())) {
                shown.add("field " + Modifier.toString(f.getModifiers()) + " " + f.getType() + " " + f.getName());
            }
        }
        for (Constructor<?> c : BoxDesk.class.getDeclaredConstructors()) {
            if (isShown(c.getModifiers())) {
                shown.add("constructor " + Modifier.toString(c.getModifiers()) + " " + types(c.getParameterTypes()));
            }
        }
        for (Method m : BoxDesk.class.getDeclaredMethods()) {
            if (isShown(m.getModifiers())) {
                shown.add("method " + Modifier.toString(m.getModifiers()) + " " + m.getReturnType() + " "
                        + m.getName() + types(m.getParameterTypes()) + thrown(m));
            }
        }
        Checks checks = new Checks();
        TreeSet<String> due = new TreeSet<>(Arrays.asList(DUE));
        for (String d : due) {
            checks.yes("has " + d, shown.contains(d));
        }
        for (String s : shown) {
            checks.yes("may have " + s, due.contains(s));
        }
        checks.yes("public and final", Modifier.toString(BoxDesk.class.getModifiers()).equals("public final"));
        checks.end();
    }

    private static boolean isShown(int modifiers) {
        return !Modifier.isPrivate(modifiers);
    }

    private static String types(Class<?>[] types) {
        String all = Arrays.toString(types);
        return "(" + all.substring(1, all.length() - 1) + ")";
    }

    private static String thrown(Method m) {
        StringBuilder all = new StringBuilder();
        for (Class<?> e : m.getExceptionTypes()) {
            all.append(all.length() == 0 ? " throws " : " ").append(e.getSimpleName());
        }
        return all.toString();
    }
}
