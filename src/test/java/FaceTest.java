import java.lang.reflect.Constructor;
import java.lang.reflect.Field;
import java.lang.reflect.Method;
import java.lang.reflect.Modifier;
import java.util.Arrays;
import java.util.TreeSet;

/** The class has the document's public face and no other member that is not private. */
public final class FaceTest {
    private static final String INDEX = "IndexOutOfBoundsException";
    private static final String ARGUMENT = "IllegalArgumentException";
    private static final String STATE = "IllegalStateException";
    private static final String ELEMENT = "NoSuchElementException";

    public static void main(String[] args) {
        TreeSet<String> due = new TreeSet<>(Arrays.asList(
            "public static final int NONE",
            "public StripMixer()",
            "public void samples(int, int, long) " + INDEX + " " + STATE,
            "public void seal(int, int) " + INDEX + " " + ARGUMENT + " " + STATE,
            "public int take(int, int) " + INDEX,
            "public int clip(int, int, int, int, int) " + ARGUMENT + " " + STATE,
            "public void drop(int) " + ELEMENT,
            "public boolean move(int, int, int) " + ELEMENT + " " + ARGUMENT,
            "public int split(int, int) " + ELEMENT + " " + ARGUMENT,
            "public void shape(int, int, int, int) " + ELEMENT + " " + ARGUMENT,
            "public boolean route(int, int) " + ARGUMENT,
            "public boolean send(int, int, int) " + ARGUMENT,
            "public void effect(int, int, int, int, int) " + ARGUMENT,
            "public void fader(int, int) " + ARGUMENT,
            "public boolean point(int, int, int, boolean) " + ARGUMENT,
            "public int turn(int, int) " + ARGUMENT,
            "public void render(int, int) " + ARGUMENT,
            "public int sample(int, int) " + INDEX,
            "public long meter(int, int) " + ARGUMENT,
            "public int bounce(int, int, int) " + ARGUMENT));
        Check.same("face", found().toString(), due.toString());
        Check.same("the class", Modifier.toString(StripMixer.class.getModifiers()), "public final");
        noNameTwice();
        Check.end();
    }

    private static TreeSet<String> found() {
        TreeSet<String> found = new TreeSet<>();
        for (Field field : StripMixer.class.getDeclaredFields()) {
            if (!Modifier.isPrivate(field.getModifiers())) {
                found.add(Modifier.toString(field.getModifiers()) + " " + field.getType() + " " + field.getName());
            }
        }
        for (Constructor<?> made : StripMixer.class.getDeclaredConstructors()) {
            found.add(Modifier.toString(made.getModifiers()) + " StripMixer" + types(made.getParameterTypes()));
        }
        for (Method method : StripMixer.class.getDeclaredMethods()) {
            if (!Modifier.isPrivate(method.getModifiers())) {
                StringBuilder text = new StringBuilder(Modifier.toString(method.getModifiers()));
                text.append(' ').append(method.getReturnType()).append(' ').append(method.getName());
                text.append(types(method.getParameterTypes()));
                for (Class<?> thrown : method.getExceptionTypes()) {
                    text.append(' ').append(thrown.getSimpleName());
                }
                found.add(text.toString());
            }
        }
        return found;
    }

    private static String types(Class<?>[] types) {
        String text = Arrays.toString(types);
        return "(" + text.substring(1, text.length() - 1) + ")";
    }

    /** No method inside bears the name of a public one. */
    private static void noNameTwice() {
        TreeSet<String> names = new TreeSet<>();
        for (Method method : StripMixer.class.getDeclaredMethods()) {
            if (Modifier.isPublic(method.getModifiers())) {
                names.add(method.getName());
            }
        }
        for (Class<?> inside : StripMixer.class.getDeclaredClasses()) {
            for (Method method : inside.getDeclaredMethods()) {
                Check.same(inside + " bears " + method.getName(), names.contains(method.getName()), false);
            }
        }
        for (Method method : StripMixer.class.getDeclaredMethods()) {
            boolean twice = Modifier.isPrivate(method.getModifiers()) && names.contains(method.getName());
            Check.same("private " + method.getName(), twice, false);
        }
    }
}
