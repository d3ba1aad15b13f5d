import java.lang.reflect.Constructor;
import java.lang.reflect.Field;
import java.lang.reflect.Method;
import java.lang.reflect.Modifier;
import java.util.Arrays;
import java.util.TreeSet;

/** The public face: every constant, the constructor and every method, and no more. */
public final class FaceTest {
    private static final String METHODS = "[fault(), follows(int,int), image(int), known(int,int,int), leaves(int), "
        + "lies(int), line(), lineBy(int,int), loss(int), more(int,int), open(int), orders(), pays(int,int), "
        + "rank(int,int), restore(int), sacks(int), say(int), saying(int,int), span(int,int), strike(), "
        + "told(int), toll(int,int), weight(int,int), wipe()]";

    public static void main(String[] args) {
        Class<?> face = LastScale.class;
        Check.due("class", Modifier.toString(face.getModifiers()), "public final");
        methods(face);
        constructors(face);
        fields(face);
        inside(face);
        Check.due("NONE", LastScale.NONE, -6);
        Check.due("UNKNOWN", LastScale.UNKNOWN, -1);
        Check.due("OUTSIDE", LastScale.OUTSIDE, -2);
        Check.due("STATE", LastScale.STATE, -3);
        Check.due("FULL", LastScale.FULL, -4);
        Check.due("NO", LastScale.NO, -5);
        Check.end();
    }

    private static void methods(Class<?> face) {
        TreeSet<String> names = new TreeSet<>();
        for (Method method : face.getDeclaredMethods()) {
            if (!Modifier.isPrivate(method.getModifiers())) {
                String types = Arrays.toString(method.getParameterTypes()).replace("[", "").replace("]", "");
                names.add(method.getName() + "(" + types.replace(" ", "") + ")");
                Check.due("modifiers of " + method.getName(), Modifier.toString(method.getModifiers()), "public");
                Check.due("type of " + method.getName(), method.getReturnType().toString(), "int");
            }
        }
        Check.due("methods", names.toString(), METHODS);
    }

    private static void constructors(Class<?> face) {
        Constructor<?>[] made = face.getDeclaredConstructors();
        Check.due("constructors", made.length, 1);
        Check.due("constructor", made[0].toString(), "public LastScale()");
    }

    private static void fields(Class<?> face) {
        TreeSet<String> names = new TreeSet<>();
        for (Field field : face.getDeclaredFields()) {
            if (!Modifier.isPrivate(field.getModifiers())) {
                names.add(field.getName());
                Check.due("field " + field.getName(), Modifier.toString(field.getModifiers()), "public static final");
                Check.due("type of " + field.getName(), field.getType().toString(), "int");
            }
        }
        Check.due("fields", names.toString(), "[FULL, NO, NONE, OUTSIDE, STATE, UNKNOWN]");
    }

    /** Classes inside are static and hidden; no hidden method bears the name of a public one. */
    private static void inside(Class<?> face) {
        TreeSet<String> names = new TreeSet<>();
        for (Method method : face.getDeclaredMethods()) {
            names.add(method.getName());
        }
        for (Class<?> inner : face.getDeclaredClasses()) {
            int modifiers = inner.getModifiers();
            boolean hidden = !Modifier.isPublic(modifiers) && !Modifier.isProtected(modifiers);
            Check.due("hidden and static: " + inner, hidden && Modifier.isStatic(modifiers) ? 1 : 0, 1);
            for (Method method : inner.getDeclaredMethods()) {
                Check.due("a name of its own: " + method, names.contains(method.getName()) ? 0 : 1, 1);
            }
        }
        Check.due("names of the class, each once", names.size(), face.getDeclaredMethods().length);
    }
}
